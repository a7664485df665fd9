theorem d_Printer_sortLines_0 : decode b_Printer_sortLines 0 = .ok (.iconst 1, 1) := by decide +kernel
theorem d_Printer_sortLines_1 : decode b_Printer_sortLines 1 = .ok (.istore_n 1, 1) := by decide +kernel
theorem d_Printer_sortLines_2 : decode b_Printer_sortLines 2 = .ok (.iload_n 1, 1) := by decide +kernel
theorem d_Printer_sortLines_3 : decode b_Printer_sortLines 3 = .ok (.aload_n 0, 1) := by decide +kernel
theorem d_Printer_sortLines_4 : decode b_Printer_sortLines 4 = .ok (.getfield 35, 3) := by decide +kernel
theorem d_Printer_sortLines_7 : decode b_Printer_sortLines 7 = .ok (.if_icmp .ge 71, 3) := by decide +kernel
theorem d_Printer_sortLines_10 : decode b_Printer_sortLines 10 = .ok (.iload_n 1, 1) := by decide +kernel
theorem d_Printer_sortLines_11 : decode b_Printer_sortLines 11 = .ok (.bipush 80, 2) := by decide +kernel
theorem d_Printer_sortLines_13 : decode b_Printer_sortLines 13 = .ok (.if_icmp .ge 65, 3) := by decide +kernel
theorem d_Printer_sortLines_16 : decode b_Printer_sortLines 16 = .ok (.aload_n 0, 1) := by decide +kernel
theorem d_Printer_sortLines_17 : decode b_Printer_sortLines 17 = .ok (.getfield 32, 3) := by decide +kernel
theorem d_Printer_sortLines_20 : decode b_Printer_sortLines 20 = .ok (.iload_n 1, 1) := by decide +kernel
theorem d_Printer_sortLines_21 : decode b_Printer_sortLines 21 = .ok (.iaload, 1) := by decide +kernel
theorem d_Printer_sortLines_22 : decode b_Printer_sortLines 22 = .ok (.istore_n 2, 1) := by decide +kernel
theorem d_Printer_sortLines_23 : decode b_Printer_sortLines 23 = .ok (.iload_n 1, 1) := by decide +kernel
theorem d_Printer_sortLines_24 : decode b_Printer_sortLines 24 = .ok (.istore_n 3, 1) := by decide +kernel
theorem d_Printer_sortLines_25 : decode b_Printer_sortLines 25 = .ok (.iload_n 3, 1) := by decide +kernel
theorem d_Printer_sortLines_26 : decode b_Printer_sortLines 26 = .ok (.ifCond .le 39, 3) := by decide +kernel
theorem d_Printer_sortLines_29 : decode b_Printer_sortLines 29 = .ok (.aload_n 0, 1) := by decide +kernel
theorem d_Printer_sortLines_30 : decode b_Printer_sortLines 30 = .ok (.iload_n 2, 1) := by decide +kernel
theorem d_Printer_sortLines_31 : decode b_Printer_sortLines 31 = .ok (.aload_n 0, 1) := by decide +kernel
theorem d_Printer_sortLines_32 : decode b_Printer_sortLines 32 = .ok (.getfield 32, 3) := by decide +kernel
theorem d_Printer_sortLines_35 : decode b_Printer_sortLines 35 = .ok (.iload_n 3, 1) := by decide +kernel
theorem d_Printer_sortLines_36 : decode b_Printer_sortLines 36 = .ok (.iconst 1, 1) := by decide +kernel
theorem d_Printer_sortLines_37 : decode b_Printer_sortLines 37 = .ok (.isub, 1) := by decide +kernel
theorem d_Printer_sortLines_38 : decode b_Printer_sortLines 38 = .ok (.iaload, 1) := by decide +kernel
theorem d_Printer_sortLines_39 : decode b_Printer_sortLines 39 = .ok (.invokevirtual 62, 3) := by decide +kernel
theorem d_Printer_sortLines_42 : decode b_Printer_sortLines 42 = .ok (.ifCond .eq 23, 3) := by decide +kernel
theorem d_Printer_sortLines_45 : decode b_Printer_sortLines 45 = .ok (.aload_n 0, 1) := by decide +kernel
theorem d_Printer_sortLines_46 : decode b_Printer_sortLines 46 = .ok (.getfield 32, 3) := by decide +kernel
theorem d_Printer_sortLines_49 : decode b_Printer_sortLines 49 = .ok (.iload_n 3, 1) := by decide +kernel
theorem d_Printer_sortLines_50 : decode b_Printer_sortLines 50 = .ok (.aload_n 0, 1) := by decide +kernel
theorem d_Printer_sortLines_51 : decode b_Printer_sortLines 51 = .ok (.getfield 32, 3) := by decide +kernel
theorem d_Printer_sortLines_54 : decode b_Printer_sortLines 54 = .ok (.iload_n 3, 1) := by decide +kernel
theorem d_Printer_sortLines_55 : decode b_Printer_sortLines 55 = .ok (.iconst 1, 1) := by decide +kernel
theorem d_Printer_sortLines_56 : decode b_Printer_sortLines 56 = .ok (.isub, 1) := by decide +kernel
theorem d_Printer_sortLines_57 : decode b_Printer_sortLines 57 = .ok (.iaload, 1) := by decide +kernel
theorem d_Printer_sortLines_58 : decode b_Printer_sortLines 58 = .ok (.iastore, 1) := by decide +kernel
theorem d_Printer_sortLines_59 : decode b_Printer_sortLines 59 = .ok (.iinc 3 (-1), 3) := by decide +kernel
theorem d_Printer_sortLines_62 : decode b_Printer_sortLines 62 = .ok (.goto (-37), 3) := by decide +kernel
theorem d_Printer_sortLines_65 : decode b_Printer_sortLines 65 = .ok (.aload_n 0, 1) := by decide +kernel
theorem d_Printer_sortLines_66 : decode b_Printer_sortLines 66 = .ok (.getfield 32, 3) := by decide +kernel
theorem d_Printer_sortLines_69 : decode b_Printer_sortLines 69 = .ok (.iload_n 3, 1) := by decide +kernel
theorem d_Printer_sortLines_70 : decode b_Printer_sortLines 70 = .ok (.iload_n 2, 1) := by decide +kernel
theorem d_Printer_sortLines_71 : decode b_Printer_sortLines 71 = .ok (.iastore, 1) := by decide +kernel
theorem d_Printer_sortLines_72 : decode b_Printer_sortLines 72 = .ok (.iinc 1 1, 3) := by decide +kernel
theorem d_Printer_sortLines_75 : decode b_Printer_sortLines 75 = .ok (.goto (-73), 3) := by decide +kernel
theorem d_Printer_sortLines_78 : decode b_Printer_sortLines 78 = .ok (.return_, 1) := by decide +kernel
theorem d_Printer_copyLines_0 : decode b_Printer_copyLines 0 = .ok (.aload_n 1, 1) := by decide +kernel
theorem d_Printer_copyLines_1 : decode b_Printer_copyLines 1 = .ok (.invokevirtual 39, 3) := by decide +kernel
theorem d_Printer_copyLines_4 : decode b_Printer_copyLines 4 = .ok (.iconst 0, 1) := by decide +kernel
theorem d_Printer_copyLines_5 : decode b_Printer_copyLines 5 = .ok (.istore_n 2, 1) := by decide +kernel
theorem d_Printer_copyLines_6 : decode b_Printer_copyLines 6 = .ok (.iload_n 2, 1) := by decide +kernel
theorem d_Printer_copyLines_7 : decode b_Printer_copyLines 7 = .ok (.aload_n 0, 1) := by decide +kernel
theorem d_Printer_copyLines_8 : decode b_Printer_copyLines 8 = .ok (.getfield 35, 3) := by decide +kernel
theorem d_Printer_copyLines_11 : decode b_Printer_copyLines 11 = .ok (.if_icmp .ge 69, 3) := by decide +kernel
theorem d_Printer_copyLines_14 : decode b_Printer_copyLines 14 = .ok (.iload_n 2, 1) := by decide +kernel
theorem d_Printer_copyLines_15 : decode b_Printer_copyLines 15 = .ok (.bipush 80, 2) := by decide +kernel
theorem d_Printer_copyLines_17 : decode b_Printer_copyLines 17 = .ok (.if_icmp .ge 63, 3) := by decide +kernel
theorem d_Printer_copyLines_20 : decode b_Printer_copyLines 20 = .ok (.aload_n 0, 1) := by decide +kernel
theorem d_Printer_copyLines_21 : decode b_Printer_copyLines 21 = .ok (.aload_n 0, 1) := by decide +kernel
theorem d_Printer_copyLines_22 : decode b_Printer_copyLines 22 = .ok (.getfield 32, 3) := by decide +kernel
theorem d_Printer_copyLines_25 : decode b_Printer_copyLines 25 = .ok (.iload_n 2, 1) := by decide +kernel
theorem d_Printer_copyLines_26 : decode b_Printer_copyLines 26 = .ok (.iaload, 1) := by decide +kernel
theorem d_Printer_copyLines_27 : decode b_Printer_copyLines 27 = .ok (.invokevirtual 66, 3) := by decide +kernel
theorem d_Printer_copyLines_30 : decode b_Printer_copyLines 30 = .ok (.istore_n 3, 1) := by decide +kernel
theorem d_Printer_copyLines_31 : decode b_Printer_copyLines 31 = .ok (.aload_n 0, 1) := by decide +kernel
theorem d_Printer_copyLines_32 : decode b_Printer_copyLines 32 = .ok (.aload_n 0, 1) := by decide +kernel
theorem d_Printer_copyLines_33 : decode b_Printer_copyLines 33 = .ok (.getfield 32, 3) := by decide +kernel
theorem d_Printer_copyLines_36 : decode b_Printer_copyLines 36 = .ok (.iload_n 2, 1) := by decide +kernel
theorem d_Printer_copyLines_37 : decode b_Printer_copyLines 37 = .ok (.iaload, 1) := by decide +kernel
theorem d_Printer_copyLines_38 : decode b_Printer_copyLines 38 = .ok (.iconst 1, 1) := by decide +kernel
theorem d_Printer_copyLines_39 : decode b_Printer_copyLines 39 = .ok (.iadd, 1) := by decide +kernel
theorem d_Printer_copyLines_40 : decode b_Printer_copyLines 40 = .ok (.invokevirtual 66, 3) := by decide +kernel
theorem d_Printer_copyLines_43 : decode b_Printer_copyLines 43 = .ok (.istore 4, 2) := by decide +kernel
theorem d_Printer_copyLines_45 : decode b_Printer_copyLines 45 = .ok (.iload_n 3, 1) := by decide +kernel
theorem d_Printer_copyLines_46 : decode b_Printer_copyLines 46 = .ok (.istore 5, 2) := by decide +kernel
theorem d_Printer_copyLines_48 : decode b_Printer_copyLines 48 = .ok (.iload 5, 2) := by decide +kernel
theorem d_Printer_copyLines_50 : decode b_Printer_copyLines 50 = .ok (.iload 4, 2) := by decide +kernel
theorem d_Printer_copyLines_52 : decode b_Printer_copyLines 52 = .ok (.if_icmp .ge 22, 3) := by decide +kernel
theorem d_Printer_copyLines_55 : decode b_Printer_copyLines 55 = .ok (.aload_n 1, 1) := by decide +kernel
theorem d_Printer_copyLines_56 : decode b_Printer_copyLines 56 = .ok (.aload_n 0, 1) := by decide +kernel
theorem d_Printer_copyLines_57 : decode b_Printer_copyLines 57 = .ok (.getfield 24, 3) := by decide +kernel
theorem d_Printer_copyLines_60 : decode b_Printer_copyLines 60 = .ok (.iload 5, 2) := by decide +kernel
theorem d_Printer_copyLines_62 : decode b_Printer_copyLines 62 = .ok (.invokevirtual 70, 3) := by decide +kernel
theorem d_Printer_copyLines_65 : decode b_Printer_copyLines 65 = .ok (.invokevirtual 59, 3) := by decide +kernel
theorem d_Printer_copyLines_68 : decode b_Printer_copyLines 68 = .ok (.iinc 5 1, 3) := by decide +kernel
theorem d_Printer_copyLines_71 : decode b_Printer_copyLines 71 = .ok (.goto (-23), 3) := by decide +kernel
theorem d_Printer_copyLines_74 : decode b_Printer_copyLines 74 = .ok (.iinc 2 1, 3) := by decide +kernel
theorem d_Printer_copyLines_77 : decode b_Printer_copyLines 77 = .ok (.goto (-71), 3) := by decide +kernel
theorem d_Printer_copyLines_80 : decode b_Printer_copyLines 80 = .ok (.return_, 1) := by decide +kernel
set_option maxHeartbeats 4000000 in
set_option maxRecDepth 100000 in
theorem c_Printer_sortLines (l : Launch) (D : va_G) (cI : ClassId) (hpr : Nat) (hT : Nat) (hQ : Nat) (hpd : Nat) (qst : Nat) (qor : Nat) (pz : Int) (Sf : Nat → Int32) (Of : Nat → Int32) (qpd : Nat) (n : Int) (f : Nat → Int32) (sp : Int) (hn : 0 ≤ n ∧ n ≤ 3000) (hso : sOk Sf pz n) (hof : ∀ j, 0 ≤ j → j < pz → 0 ≤ tI Of j ∧ tI Of j < pz) (hok : ∀ a, 0 ≤ a → a < pz → okl ((Lp f Sf) a)) : CtV l D [(cI, .int)] y_Printer_sortLines b_Printer_sortLines 4 2 [.ref hpr] [(hpr, .inr (4, [.ref hT, .ref hQ, .ref hpd, .ref qst, .ref qor, .int (iI pz)])), (qst, .inl (cI, 81, .inl Sf)), (qor, .inl (cI, 80, .inl Of)), (hpd, .inr (0, [.ref qpd, .int (iI n), .int (iI sp)])), (qpd, .inl (cI, 3000, .inl f))] (S := (Nat → Int32)) (fun u => (lst (tI u) pz).Perm (lst (tI Of) pz) ∧ (lst (tI u) pz).Pairwise (Rle (Lp f Sf))) (fun u => [(hpr, .inr (4, [.ref hT, .ref hQ, .ref hpd, .ref qst, .ref qor, .int (iI pz)])), (qst, .inl (cI, 81, .inl Sf)), (qor, .inl (cI, 80, .inl u)), (hpd, .inr (0, [.ref qpd, .int (iI n), .int (iI sp)])), (qpd, .inl (cI, 3000, .inl f))]) := by
  refine CtV.walk (by decide) (Nat.le_of_ble_eq_true rfl) ?_
  intro xp xe0 xs xm xar xbelow xmeth xc xA0 xQ xe xb xml xo xt xP xK xD xA xret ls xl xS
  have xl : lv_has ls 4 [(0, .ref hpr)] := xl
  have xo : xs.vm.findClass R_Printer = some xm.cls := xo
  have hsz := hso.2.1
  have hsy := hso.1
  refine lv_iconst (v := iI (1)) xe xb d_Printer_sortLines_0 rfl ?_
  refine lv_istore_n (lv' := [(1, .int (iI 1)), (0, .ref hpr)]) xe xb d_Printer_sortLines_1 rfl xl (by decide) rfl ?_
  clear xl
  intro ls xl
  have loop_2 : ∀ (n9 : Nat) (i : Int) (Ov : Nat → Int32), (81 - i).toNat < n9 → (1 ≤ i ∧ (i ≤ pz ∨ i = 1)) → ((lst (tI Ov) pz).Perm (lst (tI Of) pz)) → (Srt (Rle (Lp f Sf)) (tI Ov) i) → ∀ (H : Heap) (locs : List Loc), va_P D classes [(hpr, .inr (4, [.ref hT, .ref hQ, .ref hpd, .ref qst, .ref qor, .int (iI pz)])), (qst, .inl (cI, 81, .inl Sf)), (qor, .inl (cI, 80, .inl Ov)), (hpd, .inr (0, [.ref qpd, .int (iI n), .int (iI sp)])), (qpd, .inl (cI, 3000, .inl f))] H → va_D xA0 [(hpr, .inr (4, [.ref hT, .ref hQ, .ref hpd, .ref qst, .ref qor, .int (iI pz)])), (qst, .inl (cI, 81, .inl Sf)), (qor, .inl (cI, 80, .inl Ov)), (hpd, .inr (0, [.ref qpd, .int (iI n), .int (iI sp)])), (qpd, .inl (cI, 3000, .inl f))] → va_S xA0 xs.heap H locs → ∀ ls : Array Slot, lv_has ls 4 [(0, .ref hpr), (1, .int (iI i))] → W xp l xe0 (tk_rm 2) xs xm xar xbelow xmeth xc H locs 0 0 xQ (F0 xm 2 ls []) := by
    intro n9
    induction n9 with
    | zero => intro i Ov h9; exact absurd h9 (Nat.not_lt_zero _)
    | succ n9 ih9 =>
      intro i Ov hm9 hi hp hs H locs xP xD xS ls xl
      have ih_2 := ih9
      have hm_2 := hm9
      refine lv_iload_n xe xb d_Printer_sortLines_2 rfl (lv_at xl 1 rfl) ?_
      refine lv_aload_n xe xb d_Printer_sortLines_3 rfl (lv_at xl 0 rfl) ?_
      refine va_get (D := D) (ci := 4) (v := .int (iI pz)) (C := R_Printer) (T := F_Printer) (N := 6) xe xb xt i_Printer xo xK xP 0 rfl rfl 5 (by decide) (xt _ mw_Printer_35) (fun _ h9 => h9) rfl d_Printer_sortLines_4 ?_
      refine tk_icmp_ge (tgt := 78) xe xb d_Printer_sortLines_7 (by decide) (by omega) (fun c_1 => ?_) (fun c_1 => ?_)
      · exact xret _ _ _ _ Ov d_Printer_sortLines_78 (by first | exact (⟨hp, srt_pw (fun a b h0 h1 h2 => hs a b h0 h1 (by omega))⟩) | (dsimp only; exact (⟨hp, srt_pw (fun a b h0 h1 h2 => hs a b h0 h1 (by omega))⟩))) xP xD xS
      · refine lv_iload_n xe xb d_Printer_sortLines_10 rfl (lv_at xl 1 rfl) ?_
        refine lv_bipush (v := iI (80)) xe xb d_Printer_sortLines_11 (by decide) ?_
        refine tk_icmp_ge (tgt := 78) xe xb d_Printer_sortLines_13 (by decide) (by omega) (fun c_2 => absurd c_2 (by omega)) (fun c_2 => ?_)
        refine lv_aload_n xe xb d_Printer_sortLines_16 rfl (lv_at xl 0 rfl) ?_
        refine va_get (D := D) (ci := 4) (v := .ref qor) (C := R_Printer) (T := F_Printer) (N := 6) xe xb xt i_Printer xo xK xP 0 rfl rfl 4 (by decide) (xt _ mw_Printer_32) (fun _ h9 => h9) rfl d_Printer_sortLines_17 ?_
        refine lv_iload_n xe xb d_Printer_sortLines_20 rfl (lv_at xl 1 rfl) ?_
        refine tk_iald xe xb xK xP 2 0 rfl rfl (by omega) d_Printer_sortLines_21 ?_
        have hr_3 := tI_rg Ov i
        refine lv_istore_n (lv' := [(2, .int (iI (tI Ov i))), (0, .ref hpr), (1, .int (iI i))]) xe xb d_Printer_sortLines_22 rfl xl (by decide) rfl ?_
        clear xl
        intro ls xl
        refine lv_iload_n xe xb d_Printer_sortLines_23 rfl (lv_at xl 2 rfl) ?_
        refine lv_istore_n (lv' := [(3, .int (iI i)), (2, .int (iI (tI Ov i))), (0, .ref hpr), (1, .int (iI i))]) xe xb d_Printer_sortLines_24 rfl xl (by decide) rfl ?_
        clear xl
        intro ls xl
        have loop_25 : ∀ (n9 : Nat) (k : Int) (Ow : Nat → Int32), k.toNat < n9 → (0 ≤ k ∧ k ≤ i) → ((lst (tI (fu Ow k (tI Ov i))) pz).Perm (lst (tI Of) pz)) → (Hol (Rle (Lp f Sf)) (tI Ow) k i (tI Ov i)) → ∀ (H : Heap) (locs : List Loc), va_P D classes [(hpr, .inr (4, [.ref hT, .ref hQ, .ref hpd, .ref qst, .ref qor, .int (iI pz)])), (qst, .inl (cI, 81, .inl Sf)), (qor, .inl (cI, 80, .inl Ow)), (hpd, .inr (0, [.ref qpd, .int (iI n), .int (iI sp)])), (qpd, .inl (cI, 3000, .inl f))] H → va_D xA0 [(hpr, .inr (4, [.ref hT, .ref hQ, .ref hpd, .ref qst, .ref qor, .int (iI pz)])), (qst, .inl (cI, 81, .inl Sf)), (qor, .inl (cI, 80, .inl Ow)), (hpd, .inr (0, [.ref qpd, .int (iI n), .int (iI sp)])), (qpd, .inl (cI, 3000, .inl f))] → va_S xA0 xs.heap H locs → ∀ ls : Array Slot, lv_has ls 4 [(0, .ref hpr), (1, .int (iI i)), (2, .int (iI (tI Ov i))), (3, .int (iI k))] → W xp l xe0 (tk_rm 2) xs xm xar xbelow xmeth xc H locs 0 0 xQ (F0 xm 25 ls []) := by
          intro n9
          induction n9 with
          | zero => intro k Ow h9; exact absurd h9 (Nat.not_lt_zero _)
          | succ n9 ih9 =>
            intro k Ow hm9 hk hp2 hh H locs xP xD xS ls xl
            have ih_25 := ih9
            have hm_25 := hm9
            refine lv_iload_n xe xb d_Printer_sortLines_25 rfl (lv_at xl 3 rfl) ?_
            refine tk_if_le (tgt := 65) xe xb d_Printer_sortLines_26 (by decide) (by omega) (fun C26 => ?_) (fun C26 => ?_)
            · refine lv_aload_n xe xb d_Printer_sortLines_65 rfl (lv_at xl 0 rfl) ?_
              refine va_get (D := D) (ci := 4) (v := .ref qor) (C := R_Printer) (T := F_Printer) (N := 6) xe xb xt i_Printer xo xK xP 0 rfl rfl 4 (by decide) (xt _ mw_Printer_32) (fun _ h9 => h9) rfl d_Printer_sortLines_66 ?_
              refine lv_iload_n xe xb d_Printer_sortLines_69 rfl (lv_at xl 3 rfl) ?_
              refine lv_iload_n xe xb d_Printer_sortLines_70 rfl (lv_at xl 2 rfl) ?_
              refine tk_iast xe xb xK xP xD xS 2 0 rfl rfl (by omega) d_Printer_sortLines_71 ?_
              clear xP xD xS
              intro H locs xP xD xS
              replace xP : va_P D classes [(hpr, .inr (4, [.ref hT, .ref hQ, .ref hpd, .ref qst, .ref qor, .int (iI pz)])), (qst, .inl (cI, 81, .inl Sf)), (qor, .inl (cI, 80, .inl (fu Ow k (tI Ov i)))), (hpd, .inr (0, [.ref qpd, .int (iI n), .int (iI sp)])), (qpd, .inl (cI, 3000, .inl f))] H := xP
              replace xD : va_D xA0 [(hpr, .inr (4, [.ref hT, .ref hQ, .ref hpd, .ref qst, .ref qor, .int (iI pz)])), (qst, .inl (cI, 81, .inl Sf)), (qor, .inl (cI, 80, .inl (fu Ow k (tI Ov i)))), (hpd, .inr (0, [.ref qpd, .int (iI n), .int (iI sp)])), (qpd, .inl (cI, 3000, .inl f))] := xD
              refine tk_iinc (v := (i + 1)) (lv' := [(1, .int (iI (i + 1))), (0, .ref hpr), (2, .int (iI (tI Ov i))), (3, .int (iI k))]) xe xb d_Printer_sortLines_72 xl (k := 1) rfl rfl (by decide) rfl ?_
              clear xl
              intro ls xl
              refine lv_goto (tgt := 2) xe xb d_Printer_sortLines_75 (by decide) ?_
              exact ih_2 (i + 1) (fu Ow k (tI Ov i)) (by omega) (by first | assumption | omega) hp2 (hol_end hk.1 (tI_rg _ _) hh (Or.inl (by omega)) hk.2) _ _ xP xD xS ls (lv_sub xl [1, 0] rfl)
            · have hr1 := perm_rg hp hof i (by omega) (by omega)
              have hr2 := hol_rg hp2 hof hk.1 (k - 1) (by omega) (by omega) (by omega)
              refine lv_aload_n xe xb d_Printer_sortLines_29 rfl (lv_at xl 0 rfl) ?_
              refine lv_iload_n xe xb d_Printer_sortLines_30 rfl (lv_at xl 2 rfl) ?_
              refine lv_aload_n xe xb d_Printer_sortLines_31 rfl (lv_at xl 0 rfl) ?_
              refine va_get (D := D) (ci := 4) (v := .ref qor) (C := R_Printer) (T := F_Printer) (N := 6) xe xb xt i_Printer xo xK xP 0 rfl rfl 4 (by decide) (xt _ mw_Printer_32) (fun _ h9 => h9) rfl d_Printer_sortLines_32 ?_
              refine lv_iload_n xe xb d_Printer_sortLines_35 rfl (lv_at xl 3 rfl) ?_
              refine lv_iconst (v := iI (1)) xe xb d_Printer_sortLines_36 rfl ?_
              refine tk_isub xe xb d_Printer_sortLines_37 ?_
              refine tk_iald xe xb xK xP 2 0 rfl rfl (by omega) d_Printer_sortLines_38 ?_
              have hr_4 := tI_rg Ow (k - 1)
              refine tk_callVi (As := [.int (iI (tI Ov i)), .int (iI (tI Ow (k - 1)))]) (rest := []) (wr := []) (wn := fun u => [(hpr, .inr (4, [.ref hT, .ref hQ, .ref hpd, .ref qst, .ref qor, .int (iI pz)])), (qst, .inl (cI, 81, .inl Sf)), (qor, .inl (cI, 80, .inl Ow)), (hpd, .inr (0, [.ref qpd, .int (iI n), .int (iI sp)])), (qpd, .inl (cI, 3000, .inl f))]) ⟨xe, xb, xml, xo, xt⟩ (c_Printer_comesBefore l D cI hpr hT hQ hpd qst qor pz Sf Ow qpd n f sp (tI Ov i) (tI Ow (k - 1)) (by first | assumption | omega) (by first | assumption | omega) (by first | assumption | omega) (by first | assumption | omega)) k_Printer_comesBefore mw_Printer_62 ⟨Nat.le_of_ble_eq_true rfl, Nat.le_of_ble_eq_true rfl⟩ xK xP xD xS xA rfl xl.1 rfl (Nat.le_of_ble_eq_true rfl) d_Printer_sortLines_39 ⟨Nat.zero_le _, Nat.zero_le _⟩ [0, 1, 2, 3, 4] [] [0, 1, 2, 3, 4] rfl rfl (by decide) (by decide) (by decide) (by decide) (fun _ => rfl) rfl rfl rfl ?_
              clear xP xD xS
              intro z_6 u H locs hr_7 hw_5 xP xD xS
              try dsimp only at hw_5
              replace xP : va_P D classes [(hpr, .inr (4, [.ref hT, .ref hQ, .ref hpd, .ref qst, .ref qor, .int (iI pz)])), (qst, .inl (cI, 81, .inl Sf)), (qor, .inl (cI, 80, .inl Ow)), (hpd, .inr (0, [.ref qpd, .int (iI n), .int (iI sp)])), (qpd, .inl (cI, 3000, .inl f))] H := xP
              replace xD : va_D xA0 [(hpr, .inr (4, [.ref hT, .ref hQ, .ref hpd, .ref qst, .ref qor, .int (iI pz)])), (qst, .inl (cI, 81, .inl Sf)), (qor, .inl (cI, 80, .inl Ow)), (hpd, .inr (0, [.ref qpd, .int (iI n), .int (iI sp)])), (qpd, .inl (cI, 3000, .inl f))] := xD
              rcases hw_5 with ⟨rfl, HL⟩ | ⟨rfl, HL⟩
              · refine tk_if_eq (tgt := 65) xe xb d_Printer_sortLines_42 (by decide) (by omega) (fun c_8 => absurd c_8 (by omega)) (fun c_8 => ?_)
                refine lv_aload_n xe xb d_Printer_sortLines_45 rfl (lv_at xl 0 rfl) ?_
                refine va_get (D := D) (ci := 4) (v := .ref qor) (C := R_Printer) (T := F_Printer) (N := 6) xe xb xt i_Printer xo xK xP 0 rfl rfl 4 (by decide) (xt _ mw_Printer_32) (fun _ h9 => h9) rfl d_Printer_sortLines_46 ?_
                refine lv_iload_n xe xb d_Printer_sortLines_49 rfl (lv_at xl 3 rfl) ?_
                refine lv_aload_n xe xb d_Printer_sortLines_50 rfl (lv_at xl 0 rfl) ?_
                refine va_get (D := D) (ci := 4) (v := .ref qor) (C := R_Printer) (T := F_Printer) (N := 6) xe xb xt i_Printer xo xK xP 0 rfl rfl 4 (by decide) (xt _ mw_Printer_32) (fun _ h9 => h9) rfl d_Printer_sortLines_51 ?_
                refine lv_iload_n xe xb d_Printer_sortLines_54 rfl (lv_at xl 3 rfl) ?_
                refine lv_iconst (v := iI (1)) xe xb d_Printer_sortLines_55 rfl ?_
                refine tk_isub xe xb d_Printer_sortLines_56 ?_
                refine tk_iald xe xb xK xP 2 0 rfl rfl (by omega) d_Printer_sortLines_57 ?_
                have hr_9 := tI_rg Ow (k - 1)
                refine tk_iast xe xb xK xP xD xS 2 0 rfl rfl (by omega) d_Printer_sortLines_58 ?_
                clear xP xD xS
                intro H locs xP xD xS
                replace xP : va_P D classes [(hpr, .inr (4, [.ref hT, .ref hQ, .ref hpd, .ref qst, .ref qor, .int (iI pz)])), (qst, .inl (cI, 81, .inl Sf)), (qor, .inl (cI, 80, .inl (fu Ow k (tI Ow (k - 1))))), (hpd, .inr (0, [.ref qpd, .int (iI n), .int (iI sp)])), (qpd, .inl (cI, 3000, .inl f))] H := xP
                replace xD : va_D xA0 [(hpr, .inr (4, [.ref hT, .ref hQ, .ref hpd, .ref qst, .ref qor, .int (iI pz)])), (qst, .inl (cI, 81, .inl Sf)), (qor, .inl (cI, 80, .inl (fu Ow k (tI Ow (k - 1))))), (hpd, .inr (0, [.ref qpd, .int (iI n), .int (iI sp)])), (qpd, .inl (cI, 3000, .inl f))] := xD
                refine tk_iinc (v := (k - 1)) (lv' := [(3, .int (iI (k - 1))), (0, .ref hpr), (1, .int (iI i)), (2, .int (iI (tI Ov i)))]) xe xb d_Printer_sortLines_59 xl (k := 3) rfl (by omega) (by decide) rfl ?_
                clear xl
                intro ls xl
                refine lv_goto (tgt := 25) xe xb d_Printer_sortLines_62 (by decide) ?_
                exact ih_25 (k - 1) (fu Ow k (tI Ow (k - 1))) (by omega) (by first | assumption | omega) ((perm_step (by omega) (by omega) (tI_rg _ _)).trans hp2) (hol_step (by omega) hh ⟨hok _ hr1.1 hr1.2, hok _ hr2.1 hr2.2, llt_asym HL⟩) _ _ xP xD xS ls (lv_sub xl [1, 2, 3, 0] rfl)
              · refine tk_if_eq (tgt := 65) xe xb d_Printer_sortLines_42 (by decide) (by omega) (fun c_10 => ?_) (fun c_10 => absurd c_10 (by omega))
                refine lv_aload_n xe xb d_Printer_sortLines_65 rfl (lv_at xl 0 rfl) ?_
                refine va_get (D := D) (ci := 4) (v := .ref qor) (C := R_Printer) (T := F_Printer) (N := 6) xe xb xt i_Printer xo xK xP 0 rfl rfl 4 (by decide) (xt _ mw_Printer_32) (fun _ h9 => h9) rfl d_Printer_sortLines_66 ?_
                refine lv_iload_n xe xb d_Printer_sortLines_69 rfl (lv_at xl 3 rfl) ?_
                refine lv_iload_n xe xb d_Printer_sortLines_70 rfl (lv_at xl 2 rfl) ?_
                refine tk_iast xe xb xK xP xD xS 2 0 rfl rfl (by omega) d_Printer_sortLines_71 ?_
                clear xP xD xS
                intro H locs xP xD xS
                replace xP : va_P D classes [(hpr, .inr (4, [.ref hT, .ref hQ, .ref hpd, .ref qst, .ref qor, .int (iI pz)])), (qst, .inl (cI, 81, .inl Sf)), (qor, .inl (cI, 80, .inl (fu Ow k (tI Ov i)))), (hpd, .inr (0, [.ref qpd, .int (iI n), .int (iI sp)])), (qpd, .inl (cI, 3000, .inl f))] H := xP
                replace xD : va_D xA0 [(hpr, .inr (4, [.ref hT, .ref hQ, .ref hpd, .ref qst, .ref qor, .int (iI pz)])), (qst, .inl (cI, 81, .inl Sf)), (qor, .inl (cI, 80, .inl (fu Ow k (tI Ov i)))), (hpd, .inr (0, [.ref qpd, .int (iI n), .int (iI sp)])), (qpd, .inl (cI, 3000, .inl f))] := xD
                refine tk_iinc (v := (i + 1)) (lv' := [(1, .int (iI (i + 1))), (0, .ref hpr), (2, .int (iI (tI Ov i))), (3, .int (iI k))]) xe xb d_Printer_sortLines_72 xl (k := 1) rfl rfl (by decide) rfl ?_
                clear xl
                intro ls xl
                refine lv_goto (tgt := 2) xe xb d_Printer_sortLines_75 (by decide) ?_
                exact ih_2 (i + 1) (fu Ow k (tI Ov i)) (by omega) (by first | assumption | omega) hp2 (hol_end hk.1 (tI_rg _ _) hh (Or.inr ⟨hok _ hr2.1 hr2.2, hok _ hr1.1 hr1.2, Bool.eq_false_iff.mpr HL⟩) hk.2) _ _ xP xD xS ls (lv_sub xl [1, 0] rfl)
        exact loop_25 _ i Ov (Nat.lt_succ_self _) (by first | assumption | omega) (by rw [fu_self (by omega)]; exact hp) (hol_start hs) _ _ xP xD xS ls (lv_sub xl [2, 3, 1, 0] rfl)
  exact loop_2 _ 1 Of (Nat.lt_succ_self _) (by first | assumption | omega) (List.Perm.refl _) (fun a b h0 h1 h2 => by omega) _ _ xP xD xS ls (lv_sub xl [1, 0] rfl)
set_option maxHeartbeats 4000000 in
set_option maxRecDepth 100000 in
theorem c_Printer_copyLines (l : Launch) (D : va_G) (cI : ClassId) (hpr : Nat) (hT : Nat) (hQ : Nat) (hpd : Nat) (qst : Nat) (qor : Nat) (pz : Int) (Sf : Nat → Int32) (Of : Nat → Int32) (qpd : Nat) (n : Int) (f : Nat → Int32) (sp : Int) (hot : Nat) (qo : Nat) (no : Int) (fo : Nat → Int32) (so : Int) (hn : 0 ≤ n ∧ n ≤ 3000) (hso : sOk Sf pz n) (hof : ∀ j, 0 ≤ j → j < pz → 0 ≤ tI Of j ∧ tI Of j < pz) : CtV l D [(cI, .int)] y_Printer_copyLines b_Printer_copyLines 6 1 [.ref hpr, .ref hot] [(hpr, .inr (4, [.ref hT, .ref hQ, .ref hpd, .ref qst, .ref qor, .int (iI pz)])), (qst, .inl (cI, 81, .inl Sf)), (qor, .inl (cI, 80, .inl Of)), (hpd, .inr (0, [.ref qpd, .int (iI n), .int (iI sp)])), (qpd, .inl (cI, 3000, .inl f)), (hot, .inr (0, [.ref qo, .int (iI no), .int (iI so)])), (qo, .inl (cI, 3000, .inl fo))] (S := Int × (Nat → Int32) × Int) (fun u => Pw u.1 u.2.1 u.2.2 0 fo 0 (((lst (tI Of) pz).map (Lp f Sf)).flatten)) (fun u => [(hpr, .inr (4, [.ref hT, .ref hQ, .ref hpd, .ref qst, .ref qor, .int (iI pz)])), (qst, .inl (cI, 81, .inl Sf)), (qor, .inl (cI, 80, .inl Of)), (hpd, .inr (0, [.ref qpd, .int (iI n), .int (iI sp)])), (qpd, .inl (cI, 3000, .inl f)), (hot, .inr (0, [.ref qo, .int (iI u.1), .int (iI u.2.2)])), (qo, .inl (cI, 3000, .inl u.2.1))]) := by
  refine CtV.walk (by decide) (Nat.le_of_ble_eq_true rfl) ?_
  intro xp xe0 xs xm xar xbelow xmeth xc xA0 xQ xe xb xml xo xt xP xK xD xA xret ls xl xS
  have xl : lv_has ls 6 [(0, .ref hpr), (1, .ref hot)] := xl
  have xo : xs.vm.findClass R_Printer = some xm.cls := xo
  have hsz := hso.2.1
  have hsy := hso.1
  refine lv_aload_n xe xb d_Printer_copyLines_0 rfl (lv_at xl 1 rfl) ?_
  refine tk_callVv (As := []) (rest := []) (wr := [(hpr, .inr (4, [.ref hT, .ref hQ, .ref hpd, .ref qst, .ref qor, .int (iI pz)])), (qst, .inl (cI, 81, .inl Sf)), (qor, .inl (cI, 80, .inl Of)), (hpd, .inr (0, [.ref qpd, .int (iI n), .int (iI sp)])), (qpd, .inl (cI, 3000, .inl f))]) (wn := fun u => [(hpr, .inr (4, [.ref hT, .ref hQ, .ref hpd, .ref qst, .ref qor, .int (iI pz)])), (qst, .inl (cI, 81, .inl Sf)), (qor, .inl (cI, 80, .inl Of)), (hpd, .inr (0, [.ref qpd, .int (iI n), .int (iI sp)])), (qpd, .inl (cI, 3000, .inl f)), (hot, .inr (0, [.ref qo, .int (iI u.1), .int (iI u.2)])), (qo, .inl (cI, 3000, .inl fo))]) ⟨xe, xb, xml, xo, xt⟩ (c_Row_clear l D cI hot qo 3000 no fo so ) k_Row_clear mw_Printer_39 ⟨Nat.le_of_ble_eq_true rfl, Nat.le_of_ble_eq_true rfl⟩ xK xP xD xS xA rfl xl.1 rfl (Nat.le_of_ble_eq_true rfl) d_Printer_copyLines_1 ⟨Nat.zero_le _, Nat.zero_le _⟩ [5, 6] [0, 1, 2, 3, 4] [0, 1, 2, 3, 4, 5, 6] rfl rfl (by decide) (by decide) (by decide) (by decide) (fun _ => rfl) rfl rfl rfl ?_
  clear xP xD xS
  intro u H locs hw_3 xP xD xS
  obtain ⟨n2_1, sp2_2⟩ := u
  try dsimp only at hw_3
  replace xP : va_P D classes [(hpr, .inr (4, [.ref hT, .ref hQ, .ref hpd, .ref qst, .ref qor, .int (iI pz)])), (qst, .inl (cI, 81, .inl Sf)), (qor, .inl (cI, 80, .inl Of)), (hpd, .inr (0, [.ref qpd, .int (iI n), .int (iI sp)])), (qpd, .inl (cI, 3000, .inl f)), (hot, .inr (0, [.ref qo, .int (iI n2_1), .int (iI sp2_2)])), (qo, .inl (cI, 3000, .inl fo))] H := xP
  replace xD : va_D xA0 [(hpr, .inr (4, [.ref hT, .ref hQ, .ref hpd, .ref qst, .ref qor, .int (iI pz)])), (qst, .inl (cI, 81, .inl Sf)), (qor, .inl (cI, 80, .inl Of)), (hpd, .inr (0, [.ref qpd, .int (iI n), .int (iI sp)])), (qpd, .inl (cI, 3000, .inl f)), (hot, .inr (0, [.ref qo, .int (iI n2_1), .int (iI sp2_2)])), (qo, .inl (cI, 3000, .inl fo))] := xD
  have HCL := hw_3
  refine lv_iconst (v := iI (0)) xe xb d_Printer_copyLines_4 rfl ?_
  refine lv_istore_n (lv' := [(2, .int (iI 0)), (0, .ref hpr), (1, .ref hot)]) xe xb d_Printer_copyLines_5 rfl xl (by decide) rfl ?_
  clear xl
  intro ls xl
  have loop_6 : ∀ (n9 : Nat) (i : Int) (nv : Int) (gv : Nat → Int32) (sv : Int), (81 - i).toNat < n9 → (0 ≤ i ∧ i ≤ pz) → (Pw nv gv sv 0 fo 0 (((lst (tI Of) i).map (Lp f Sf)).flatten)) → ∀ (H : Heap) (locs : List Loc), va_P D classes [(hpr, .inr (4, [.ref hT, .ref hQ, .ref hpd, .ref qst, .ref qor, .int (iI pz)])), (qst, .inl (cI, 81, .inl Sf)), (qor, .inl (cI, 80, .inl Of)), (hpd, .inr (0, [.ref qpd, .int (iI n), .int (iI sp)])), (qpd, .inl (cI, 3000, .inl f)), (hot, .inr (0, [.ref qo, .int (iI nv), .int (iI sv)])), (qo, .inl (cI, 3000, .inl gv))] H → va_D xA0 [(hpr, .inr (4, [.ref hT, .ref hQ, .ref hpd, .ref qst, .ref qor, .int (iI pz)])), (qst, .inl (cI, 81, .inl Sf)), (qor, .inl (cI, 80, .inl Of)), (hpd, .inr (0, [.ref qpd, .int (iI n), .int (iI sp)])), (qpd, .inl (cI, 3000, .inl f)), (hot, .inr (0, [.ref qo, .int (iI nv), .int (iI sv)])), (qo, .inl (cI, 3000, .inl gv))] → va_S xA0 xs.heap H locs → ∀ ls : Array Slot, lv_has ls 6 [(0, .ref hpr), (1, .ref hot), (2, .int (iI i))] → W xp l xe0 (tk_rm 1) xs xm xar xbelow xmeth xc H locs 0 0 xQ (F0 xm 6 ls []) := by
    intro n9
    induction n9 with
    | zero => intro i nv gv sv h9; exact absurd h9 (Nat.not_lt_zero _)
    | succ n9 ih9 =>
      intro i nv gv sv hm9 hi hP H locs xP xD xS ls xl
      have ih_6 := ih9
      have hm_6 := hm9
      refine lv_iload_n xe xb d_Printer_copyLines_6 rfl (lv_at xl 2 rfl) ?_
      refine lv_aload_n xe xb d_Printer_copyLines_7 rfl (lv_at xl 0 rfl) ?_
      refine va_get (D := D) (ci := 4) (v := .int (iI pz)) (C := R_Printer) (T := F_Printer) (N := 6) xe xb xt i_Printer xo xK xP 0 rfl rfl 5 (by decide) (xt _ mw_Printer_35) (fun _ h9 => h9) rfl d_Printer_copyLines_8 ?_
      refine tk_icmp_ge (tgt := 80) xe xb d_Printer_copyLines_11 (by decide) (by omega) (fun c_5 => ?_) (fun c_5 => ?_)
      · exact xret _ _ _ _ (nv, gv, sv) d_Printer_copyLines_80 (by first | exact (Pw_cast hP (by rw [show i = pz by omega])) | (dsimp only; exact (Pw_cast hP (by rw [show i = pz by omega])))) xP xD xS
      · refine lv_iload_n xe xb d_Printer_copyLines_14 rfl (lv_at xl 2 rfl) ?_
        refine lv_bipush (v := iI (80)) xe xb d_Printer_copyLines_15 (by decide) ?_
        refine tk_icmp_ge (tgt := 80) xe xb d_Printer_copyLines_17 (by decide) (by omega) (fun c_6 => absurd c_6 (by omega)) (fun c_6 => ?_)
        have ho := hof i (by omega) (by omega)
        have hs2 := hso.2.2 (tI Of i) ho.1 ho.2
        refine lv_aload_n xe xb d_Printer_copyLines_20 rfl (lv_at xl 0 rfl) ?_
        refine lv_aload_n xe xb d_Printer_copyLines_21 rfl (lv_at xl 0 rfl) ?_
        refine va_get (D := D) (ci := 4) (v := .ref qor) (C := R_Printer) (T := F_Printer) (N := 6) xe xb xt i_Printer xo xK xP 0 rfl rfl 4 (by decide) (xt _ mw_Printer_32) (fun _ h9 => h9) rfl d_Printer_copyLines_22 ?_
        refine lv_iload_n xe xb d_Printer_copyLines_25 rfl (lv_at xl 2 rfl) ?_
        refine tk_iald xe xb xK xP 2 0 rfl rfl (by omega) d_Printer_copyLines_26 ?_
        have hr_7 := tI_rg Of i
        refine tk_callVi (As := [.int (iI (tI Of i))]) (rest := []) (wr := [(hot, .inr (0, [.ref qo, .int (iI nv), .int (iI sv)])), (qo, .inl (cI, 3000, .inl gv))]) (wn := fun u => [(hpr, .inr (4, [.ref hT, .ref hQ, .ref hpd, .ref qst, .ref qor, .int (iI pz)])), (qst, .inl (cI, 81, .inl Sf)), (qor, .inl (cI, 80, .inl Of)), (hpd, .inr (0, [.ref qpd, .int (iI n), .int (iI sp)])), (qpd, .inl (cI, 3000, .inl f)), (hot, .inr (0, [.ref qo, .int (iI nv), .int (iI sv)])), (qo, .inl (cI, 3000, .inl gv))]) ⟨xe, xb, xml, xo, xt⟩ (c_Printer_startOf l D cI hpr hT hQ hpd qst qor pz Sf Of qpd n f sp (tI Of i) (by first | assumption | omega) (by first | assumption | omega)) k_Printer_startOf mw_Printer_66 ⟨Nat.le_of_ble_eq_true rfl, Nat.le_of_ble_eq_true rfl⟩ xK xP xD xS xA rfl xl.1 rfl (Nat.le_of_ble_eq_true rfl) d_Printer_copyLines_27 ⟨Nat.zero_le _, Nat.zero_le _⟩ [0, 1, 2, 3, 4] [5, 6] [2, 3, 4, 5, 6, 0, 1] rfl rfl (by decide) (by decide) (by decide) (by decide) (fun _ => rfl) rfl rfl rfl ?_
        clear xP xD xS
        intro z_9 u H locs hr_10 hw_8 xP xD xS
        try dsimp only at hw_8
        replace xP : va_P D classes [(hpr, .inr (4, [.ref hT, .ref hQ, .ref hpd, .ref qst, .ref qor, .int (iI pz)])), (qst, .inl (cI, 81, .inl Sf)), (qor, .inl (cI, 80, .inl Of)), (hpd, .inr (0, [.ref qpd, .int (iI n), .int (iI sp)])), (qpd, .inl (cI, 3000, .inl f)), (hot, .inr (0, [.ref qo, .int (iI nv), .int (iI sv)])), (qo, .inl (cI, 3000, .inl gv))] H := xP
        replace xD : va_D xA0 [(hpr, .inr (4, [.ref hT, .ref hQ, .ref hpd, .ref qst, .ref qor, .int (iI pz)])), (qst, .inl (cI, 81, .inl Sf)), (qor, .inl (cI, 80, .inl Of)), (hpd, .inr (0, [.ref qpd, .int (iI n), .int (iI sp)])), (qpd, .inl (cI, 3000, .inl f)), (hot, .inr (0, [.ref qo, .int (iI nv), .int (iI sv)])), (qo, .inl (cI, 3000, .inl gv))] := xD
        have HA := hw_8
        rw [if_pos (by omega)] at HA
        refine tk_top (y := iI (tI Sf (tI Of i))) (congrArg iI HA) ?_
        refine lv_istore_n (lv' := [(3, .int (iI (tI Sf (tI Of i)))), (0, .ref hpr), (1, .ref hot), (2, .int (iI i))]) xe xb d_Printer_copyLines_30 rfl xl (by decide) rfl ?_
        clear xl
        intro ls xl
        refine lv_aload_n xe xb d_Printer_copyLines_31 rfl (lv_at xl 1 rfl) ?_
        refine lv_aload_n xe xb d_Printer_copyLines_32 rfl (lv_at xl 1 rfl) ?_
        refine va_get (D := D) (ci := 4) (v := .ref qor) (C := R_Printer) (T := F_Printer) (N := 6) xe xb xt i_Printer xo xK xP 0 rfl rfl 4 (by decide) (xt _ mw_Printer_32) (fun _ h9 => h9) rfl d_Printer_copyLines_33 ?_
        refine lv_iload_n xe xb d_Printer_copyLines_36 rfl (lv_at xl 3 rfl) ?_
        refine tk_iald xe xb xK xP 2 0 rfl rfl (by omega) d_Printer_copyLines_37 ?_
        have hr_11 := tI_rg Of i
        refine lv_iconst (v := iI (1)) xe xb d_Printer_copyLines_38 rfl ?_
        refine tk_iadd xe xb d_Printer_copyLines_39 ?_
        refine tk_callVi (As := [.int (iI ((tI Of i) + 1))]) (rest := []) (wr := [(hot, .inr (0, [.ref qo, .int (iI nv), .int (iI sv)])), (qo, .inl (cI, 3000, .inl gv))]) (wn := fun u => [(hpr, .inr (4, [.ref hT, .ref hQ, .ref hpd, .ref qst, .ref qor, .int (iI pz)])), (qst, .inl (cI, 81, .inl Sf)), (qor, .inl (cI, 80, .inl Of)), (hpd, .inr (0, [.ref qpd, .int (iI n), .int (iI sp)])), (qpd, .inl (cI, 3000, .inl f)), (hot, .inr (0, [.ref qo, .int (iI nv), .int (iI sv)])), (qo, .inl (cI, 3000, .inl gv))]) ⟨xe, xb, xml, xo, xt⟩ (c_Printer_startOf l D cI hpr hT hQ hpd qst qor pz Sf Of qpd n f sp ((tI Of i) + 1) (by first | assumption | omega) (by first | assumption | omega)) k_Printer_startOf mw_Printer_66 ⟨Nat.le_of_ble_eq_true rfl, Nat.le_of_ble_eq_true rfl⟩ xK xP xD xS xA rfl xl.1 rfl (Nat.le_of_ble_eq_true rfl) d_Printer_copyLines_40 ⟨Nat.zero_le _, Nat.zero_le _⟩ [0, 1, 2, 3, 4] [5, 6] [2, 3, 4, 5, 6, 0, 1] rfl rfl (by decide) (by decide) (by decide) (by decide) (fun _ => rfl) rfl rfl rfl ?_
        clear xP xD xS
        intro z_13 u H locs hr_14 hw_12 xP xD xS
        try dsimp only at hw_12
        replace xP : va_P D classes [(hpr, .inr (4, [.ref hT, .ref hQ, .ref hpd, .ref qst, .ref qor, .int (iI pz)])), (qst, .inl (cI, 81, .inl Sf)), (qor, .inl (cI, 80, .inl Of)), (hpd, .inr (0, [.ref qpd, .int (iI n), .int (iI sp)])), (qpd, .inl (cI, 3000, .inl f)), (hot, .inr (0, [.ref qo, .int (iI nv), .int (iI sv)])), (qo, .inl (cI, 3000, .inl gv))] H := xP
        replace xD : va_D xA0 [(hpr, .inr (4, [.ref hT, .ref hQ, .ref hpd, .ref qst, .ref qor, .int (iI pz)])), (qst, .inl (cI, 81, .inl Sf)), (qor, .inl (cI, 80, .inl Of)), (hpd, .inr (0, [.ref qpd, .int (iI n), .int (iI sp)])), (qpd, .inl (cI, 3000, .inl f)), (hot, .inr (0, [.ref qo, .int (iI nv), .int (iI sv)])), (qo, .inl (cI, 3000, .inl gv))] := xD
        have HA1 := hw_12
        rw [if_pos (by omega)] at HA1
        refine tk_top (y := iI (tI Sf (tI Of i + 1))) (congrArg iI HA1) ?_
        refine lv_istore (lv' := [(4, .int (iI (tI Sf (tI Of i + 1)))), (3, .int (iI (tI Sf (tI Of i)))), (0, .ref hpr), (1, .ref hot), (2, .int (iI i))]) xe xb d_Printer_copyLines_43 xl (by decide) rfl ?_
        clear xl
        intro ls xl
        refine lv_iload_n xe xb d_Printer_copyLines_45 rfl (lv_at xl 1 rfl) ?_
        refine lv_istore (lv' := [(5, .int (iI (tI Sf (tI Of i)))), (4, .int (iI (tI Sf (tI Of i + 1)))), (3, .int (iI (tI Sf (tI Of i)))), (0, .ref hpr), (1, .ref hot), (2, .int (iI i))]) xe xb d_Printer_copyLines_46 xl (by decide) rfl ?_
        clear xl
        intro ls xl
        have loop_48 : ∀ (n9 : Nat) (k : Int) (nw : Int) (gw : Nat → Int32) (sw : Int), ((tI Sf (tI Of i + 1)) - k).toNat < n9 → ((tI Sf (tI Of i)) ≤ k ∧ k ≤ (tI Sf (tI Of i + 1))) → (Pw nw gw sw 0 fo 0 (((lst (tI Of) i).map (Lp f Sf)).flatten ++ seg f (tI Sf (tI Of i)) (k - (tI Sf (tI Of i))))) → ∀ (H : Heap) (locs : List Loc), va_P D classes [(hpr, .inr (4, [.ref hT, .ref hQ, .ref hpd, .ref qst, .ref qor, .int (iI pz)])), (qst, .inl (cI, 81, .inl Sf)), (qor, .inl (cI, 80, .inl Of)), (hpd, .inr (0, [.ref qpd, .int (iI n), .int (iI sp)])), (qpd, .inl (cI, 3000, .inl f)), (hot, .inr (0, [.ref qo, .int (iI nw), .int (iI sw)])), (qo, .inl (cI, 3000, .inl gw))] H → va_D xA0 [(hpr, .inr (4, [.ref hT, .ref hQ, .ref hpd, .ref qst, .ref qor, .int (iI pz)])), (qst, .inl (cI, 81, .inl Sf)), (qor, .inl (cI, 80, .inl Of)), (hpd, .inr (0, [.ref qpd, .int (iI n), .int (iI sp)])), (qpd, .inl (cI, 3000, .inl f)), (hot, .inr (0, [.ref qo, .int (iI nw), .int (iI sw)])), (qo, .inl (cI, 3000, .inl gw))] → va_S xA0 xs.heap H locs → ∀ ls : Array Slot, lv_has ls 6 [(0, .ref hpr), (1, .ref hot), (2, .int (iI i)), (4, .int (iI (tI Sf (tI Of i + 1)))), (5, .int (iI k))] → W xp l xe0 (tk_rm 1) xs xm xar xbelow xmeth xc H locs 0 0 xQ (F0 xm 48 ls []) := by
          intro n9
          induction n9 with
          | zero => intro k nw gw sw h9; exact absurd h9 (Nat.not_lt_zero _)
          | succ n9 ih9 =>
            intro k nw gw sw hm9 hk hP2 H locs xP xD xS ls xl
            have ih_48 := ih9
            have hm_48 := hm9
            have HC := hP2
            have hgr := Pw_rg HC
            refine lv_iload xe xb d_Printer_copyLines_48 (lv_at xl 4 rfl) ?_
            refine lv_iload xe xb d_Printer_copyLines_50 (lv_at xl 3 rfl) ?_
            refine tk_icmp_ge (tgt := 74) xe xb d_Printer_copyLines_52 (by decide) (by omega) (fun c_15 => ?_) (fun c_15 => ?_)
            · refine tk_iinc (v := (i + 1)) (lv' := [(2, .int (iI (i + 1))), (0, .ref hpr), (1, .ref hot), (4, .int (iI (tI Sf (tI Of i + 1)))), (5, .int (iI k))]) xe xb d_Printer_copyLines_74 xl (k := 2) rfl rfl (by decide) rfl ?_
              clear xl
              intro ls xl
              refine lv_goto (tgt := 6) xe xb d_Printer_copyLines_77 (by decide) ?_
              exact ih_6 (i + 1) nw gw sw (by omega) (by first | assumption | omega) (Pw_cast hP2 (by rw [show k = (tI Sf (tI Of i + 1)) by omega]; exact fl_step hi.1)) _ _ xP xD xS ls (lv_sub xl [1, 2, 0] rfl)
            · refine lv_aload_n xe xb d_Printer_copyLines_55 rfl (lv_at xl 1 rfl) ?_
              refine lv_aload_n xe xb d_Printer_copyLines_56 rfl (lv_at xl 0 rfl) ?_
              refine va_get (D := D) (ci := 4) (v := .ref hpd) (C := R_Printer) (T := F_Printer) (N := 6) xe xb xt i_Printer xo xK xP 0 rfl rfl 2 (by decide) (xt _ mw_Printer_24) (fun _ h9 => h9) rfl d_Printer_copyLines_57 ?_
              refine lv_iload xe xb d_Printer_copyLines_60 (lv_at xl 4 rfl) ?_
              refine tk_callVi (As := [.int (iI k)]) (rest := [.ref hot]) (wr := [(hpr, .inr (4, [.ref hT, .ref hQ, .ref hpd, .ref qst, .ref qor, .int (iI pz)])), (qst, .inl (cI, 81, .inl Sf)), (qor, .inl (cI, 80, .inl Of)), (hot, .inr (0, [.ref qo, .int (iI nw), .int (iI sw)])), (qo, .inl (cI, 3000, .inl gw))]) (wn := fun u => [(hpr, .inr (4, [.ref hT, .ref hQ, .ref hpd, .ref qst, .ref qor, .int (iI pz)])), (qst, .inl (cI, 81, .inl Sf)), (qor, .inl (cI, 80, .inl Of)), (hpd, .inr (0, [.ref qpd, .int (iI n), .int (iI sp)])), (qpd, .inl (cI, 3000, .inl f)), (hot, .inr (0, [.ref qo, .int (iI nw), .int (iI sw)])), (qo, .inl (cI, 3000, .inl gw))]) ⟨xe, xb, xml, xo, xt⟩ (c_Row_get l D cI hpd qpd 3000 n f sp k (by first | assumption | omega) (by first | assumption | omega)) k_Row_get mw_Printer_70 ⟨Nat.le_of_ble_eq_true rfl, Nat.le_of_ble_eq_true rfl⟩ xK xP xD xS xA rfl xl.1 rfl (Nat.le_of_ble_eq_true rfl) d_Printer_copyLines_62 ⟨Nat.zero_le _, Nat.zero_le _⟩ [3, 4] [0, 1, 2, 5, 6] [0, 1, 2, 5, 6, 3, 4] rfl rfl (by decide) (by decide) (by decide) (by decide) (fun _ => rfl) rfl rfl rfl ?_
              clear xP xD xS
              intro z_17 u H locs hr_18 hw_16 xP xD xS
              try dsimp only at hw_16
              replace xP : va_P D classes [(hpr, .inr (4, [.ref hT, .ref hQ, .ref hpd, .ref qst, .ref qor, .int (iI pz)])), (qst, .inl (cI, 81, .inl Sf)), (qor, .inl (cI, 80, .inl Of)), (hpd, .inr (0, [.ref qpd, .int (iI n), .int (iI sp)])), (qpd, .inl (cI, 3000, .inl f)), (hot, .inr (0, [.ref qo, .int (iI nw), .int (iI sw)])), (qo, .inl (cI, 3000, .inl gw))] H := xP
              replace xD : va_D xA0 [(hpr, .inr (4, [.ref hT, .ref hQ, .ref hpd, .ref qst, .ref qor, .int (iI pz)])), (qst, .inl (cI, 81, .inl Sf)), (qor, .inl (cI, 80, .inl Of)), (hpd, .inr (0, [.ref qpd, .int (iI n), .int (iI sp)])), (qpd, .inl (cI, 3000, .inl f)), (hot, .inr (0, [.ref qo, .int (iI nw), .int (iI sw)])), (qo, .inl (cI, 3000, .inl gw))] := xD
              have HG := hw_16
              rw [rd_in (by omega)] at HG
              refine tk_callVv (As := [.int (iI z_17)]) (rest := []) (wr := [(hpr, .inr (4, [.ref hT, .ref hQ, .ref hpd, .ref qst, .ref qor, .int (iI pz)])), (qst, .inl (cI, 81, .inl Sf)), (qor, .inl (cI, 80, .inl Of)), (hpd, .inr (0, [.ref qpd, .int (iI n), .int (iI sp)])), (qpd, .inl (cI, 3000, .inl f))]) (wn := fun u => [(hpr, .inr (4, [.ref hT, .ref hQ, .ref hpd, .ref qst, .ref qor, .int (iI pz)])), (qst, .inl (cI, 81, .inl Sf)), (qor, .inl (cI, 80, .inl Of)), (hpd, .inr (0, [.ref qpd, .int (iI n), .int (iI sp)])), (qpd, .inl (cI, 3000, .inl f)), (hot, .inr (0, [.ref qo, .int (iI u.1), .int (iI u.2.2)])), (qo, .inl (cI, 3000, .inl u.2.1))]) ⟨xe, xb, xml, xo, xt⟩ (c_Row_addP l D cI hot qo nw gw sw z_17 (by first | assumption | omega) (by first | assumption | omega)) k_Row_add mw_Printer_59 ⟨Nat.le_of_ble_eq_true rfl, Nat.le_of_ble_eq_true rfl⟩ xK xP xD xS xA rfl xl.1 rfl (Nat.le_of_ble_eq_true rfl) d_Printer_copyLines_65 ⟨Nat.zero_le _, Nat.zero_le _⟩ [5, 6] [0, 1, 2, 3, 4] [0, 1, 2, 3, 4, 5, 6] rfl rfl (by decide) (by decide) (by decide) (by decide) (fun _ => rfl) rfl rfl rfl ?_
              clear xP xD xS
              intro u H locs hw_22 xP xD xS
              obtain ⟨n2_19, f2_20, sp2_21⟩ := u
              try dsimp only at hw_22
              replace xP : va_P D classes [(hpr, .inr (4, [.ref hT, .ref hQ, .ref hpd, .ref qst, .ref qor, .int (iI pz)])), (qst, .inl (cI, 81, .inl Sf)), (qor, .inl (cI, 80, .inl Of)), (hpd, .inr (0, [.ref qpd, .int (iI n), .int (iI sp)])), (qpd, .inl (cI, 3000, .inl f)), (hot, .inr (0, [.ref qo, .int (iI n2_19), .int (iI sp2_21)])), (qo, .inl (cI, 3000, .inl f2_20))] H := xP
              replace xD : va_D xA0 [(hpr, .inr (4, [.ref hT, .ref hQ, .ref hpd, .ref qst, .ref qor, .int (iI pz)])), (qst, .inl (cI, 81, .inl Sf)), (qor, .inl (cI, 80, .inl Of)), (hpd, .inr (0, [.ref qpd, .int (iI n), .int (iI sp)])), (qpd, .inl (cI, 3000, .inl f)), (hot, .inr (0, [.ref qo, .int (iI n2_19), .int (iI sp2_21)])), (qo, .inl (cI, 3000, .inl f2_20))] := xD
              replace HC := Pw_trans (Int.le_refl 0) HC hw_22
              have hgr := Pw_rg HC
              clear hw_22
              refine tk_iinc (v := (k + 1)) (lv' := [(5, .int (iI (k + 1))), (0, .ref hpr), (1, .ref hot), (2, .int (iI i)), (4, .int (iI (tI Sf (tI Of i + 1))))]) xe xb d_Printer_copyLines_68 xl (k := 4) rfl rfl (by decide) rfl ?_
              clear xl
              intro ls xl
              refine lv_goto (tgt := 48) xe xb d_Printer_copyLines_71 (by decide) ?_
              exact ih_48 (k + 1) n2_19 f2_20 sp2_21 (by omega) (by first | assumption | omega) (Pw_cast HC (cp_step hk.1 HG)) _ _ xP xD xS ls (lv_sub xl [1, 2, 3, 4, 0] rfl)
        exact loop_48 _ (tI Sf (tI Of i)) nv gv sv (Nat.lt_succ_self _) (by first | assumption | omega) (Pw_cast hP (by rw [show (tI Sf (tI Of i)) - (tI Sf (tI Of i)) = 0 by omega]; exact (List.append_nil _).symm)) _ _ xP xD xS ls (lv_sub xl [3, 4, 5, 1, 0] rfl)
  exact loop_6 _ 0 n2_1 fo sp2_2 (Nat.lt_succ_self _) (by first | assumption | omega) (by rw [HCL.1, HCL.2, lst_neg (g := tI Of) (Int.le_refl 0)]; exact Pw_nil (by omega)) _ _ xP xD xS ls (lv_sub xl [1, 2, 0] rfl)
