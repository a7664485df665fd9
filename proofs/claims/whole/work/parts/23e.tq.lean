theorem d_Quads_remove_0 : decode b_Quads_remove 0 = .ok (.aload_n 0, 1) := by decide +kernel
theorem d_Quads_remove_1 : decode b_Quads_remove 1 = .ok (.iload_n 1, 1) := by decide +kernel
theorem d_Quads_remove_2 : decode b_Quads_remove 2 = .ok (.invokevirtual 23, 3) := by decide +kernel
theorem d_Quads_remove_5 : decode b_Quads_remove 5 = .ok (.ifCond .ne 4, 3) := by decide +kernel
theorem d_Quads_remove_8 : decode b_Quads_remove 8 = .ok (.return_, 1) := by decide +kernel
theorem d_Quads_remove_9 : decode b_Quads_remove 9 = .ok (.iload_n 1, 1) := by decide +kernel
theorem d_Quads_remove_10 : decode b_Quads_remove 10 = .ok (.iconst 4, 1) := by decide +kernel
theorem d_Quads_remove_11 : decode b_Quads_remove 11 = .ok (.imul, 1) := by decide +kernel
theorem d_Quads_remove_12 : decode b_Quads_remove 12 = .ok (.istore_n 2, 1) := by decide +kernel
theorem d_Quads_remove_13 : decode b_Quads_remove 13 = .ok (.iload_n 2, 1) := by decide +kernel
theorem d_Quads_remove_14 : decode b_Quads_remove 14 = .ok (.iconst 4, 1) := by decide +kernel
theorem d_Quads_remove_15 : decode b_Quads_remove 15 = .ok (.iadd, 1) := by decide +kernel
theorem d_Quads_remove_16 : decode b_Quads_remove 16 = .ok (.aload_n 0, 1) := by decide +kernel
theorem d_Quads_remove_17 : decode b_Quads_remove 17 = .ok (.getfield 15, 3) := by decide +kernel
theorem d_Quads_remove_20 : decode b_Quads_remove 20 = .ok (.iconst 4, 1) := by decide +kernel
theorem d_Quads_remove_21 : decode b_Quads_remove 21 = .ok (.imul, 1) := by decide +kernel
theorem d_Quads_remove_22 : decode b_Quads_remove 22 = .ok (.if_icmp .ge 34, 3) := by decide +kernel
theorem d_Quads_remove_25 : decode b_Quads_remove 25 = .ok (.iload_n 2, 1) := by decide +kernel
theorem d_Quads_remove_26 : decode b_Quads_remove 26 = .ok (.iconst 4, 1) := by decide +kernel
theorem d_Quads_remove_27 : decode b_Quads_remove 27 = .ok (.iadd, 1) := by decide +kernel
theorem d_Quads_remove_28 : decode b_Quads_remove 28 = .ok (.aload_n 0, 1) := by decide +kernel
theorem d_Quads_remove_29 : decode b_Quads_remove 29 = .ok (.getfield 9, 3) := by decide +kernel
theorem d_Quads_remove_32 : decode b_Quads_remove 32 = .ok (.arraylength, 1) := by decide +kernel
theorem d_Quads_remove_33 : decode b_Quads_remove 33 = .ok (.if_icmp .ge 23, 3) := by decide +kernel
theorem d_Quads_remove_36 : decode b_Quads_remove 36 = .ok (.aload_n 0, 1) := by decide +kernel
theorem d_Quads_remove_37 : decode b_Quads_remove 37 = .ok (.getfield 9, 3) := by decide +kernel
theorem d_Quads_remove_40 : decode b_Quads_remove 40 = .ok (.iload_n 2, 1) := by decide +kernel
theorem d_Quads_remove_41 : decode b_Quads_remove 41 = .ok (.aload_n 0, 1) := by decide +kernel
theorem d_Quads_remove_42 : decode b_Quads_remove 42 = .ok (.getfield 9, 3) := by decide +kernel
theorem d_Quads_remove_45 : decode b_Quads_remove 45 = .ok (.iload_n 2, 1) := by decide +kernel
theorem d_Quads_remove_46 : decode b_Quads_remove 46 = .ok (.iconst 4, 1) := by decide +kernel
theorem d_Quads_remove_47 : decode b_Quads_remove 47 = .ok (.iadd, 1) := by decide +kernel
theorem d_Quads_remove_48 : decode b_Quads_remove 48 = .ok (.iaload, 1) := by decide +kernel
theorem d_Quads_remove_49 : decode b_Quads_remove 49 = .ok (.iastore, 1) := by decide +kernel
theorem d_Quads_remove_50 : decode b_Quads_remove 50 = .ok (.iinc 2 1, 3) := by decide +kernel
theorem d_Quads_remove_53 : decode b_Quads_remove 53 = .ok (.goto (-40), 3) := by decide +kernel
theorem d_Quads_remove_56 : decode b_Quads_remove 56 = .ok (.aload_n 0, 1) := by decide +kernel
theorem d_Quads_remove_57 : decode b_Quads_remove 57 = .ok (.dup, 1) := by decide +kernel
theorem d_Quads_remove_58 : decode b_Quads_remove 58 = .ok (.getfield 15, 3) := by decide +kernel
theorem d_Quads_remove_61 : decode b_Quads_remove 61 = .ok (.iconst 1, 1) := by decide +kernel
theorem d_Quads_remove_62 : decode b_Quads_remove 62 = .ok (.isub, 1) := by decide +kernel
theorem d_Quads_remove_63 : decode b_Quads_remove 63 = .ok (.putfield 15, 3) := by decide +kernel
theorem d_Quads_remove_66 : decode b_Quads_remove 66 = .ok (.return_, 1) := by decide +kernel
set_option maxHeartbeats 4000000 in
set_option maxRecDepth 100000 in
theorem c_Quads_remove (l : Launch) (D : va_G) (cI : ClassId) (hQ : Nat) (qp : Nat) (P : Nat → Int32) (qz : Int) (qf : Int) (i : Int) (hz : 0 ≤ qz ∧ qz ≤ 80) (hi : 0 ≤ i ∧ i < qz) : CtV l D [(cI, .int)] y_Quads_remove b_Quads_remove 3 1 [.ref hQ, .int (iI i)] [(hQ, .inr (2, [.ref qp, .int (iI qz), .int (iI qf)])), (qp, .inl (cI, 320, .inl P))] (S := (Nat → Int32) × Int) (fun u => u.2 = qz - 1 ∧ lst (qdAt u.1) u.2 = (lst (qdAt P) qz).eraseIdx i.toNat) (fun u => [(hQ, .inr (2, [.ref qp, .int (iI u.2), .int (iI qf)])), (qp, .inl (cI, 320, .inl u.1))]) := by
  refine CtV.walk (by decide) (Nat.le_of_ble_eq_true rfl) ?_
  intro xp xe0 xs xm xar xbelow xmeth xc xA0 xQ xe xb xml xo xt xP xK xD xA xret ls xl xS
  have xl : lv_has ls 3 [(0, .ref hQ), (1, .int (iI i))] := xl
  have xo : xs.vm.findClass R_Quads = some xm.cls := xo
  refine lv_aload_n xe xb d_Quads_remove_0 rfl (lv_at xl 0 rfl) ?_
  refine lv_iload_n xe xb d_Quads_remove_1 rfl (lv_at xl 1 rfl) ?_
  refine tk_callVi (As := [.int (iI i)]) (rest := []) (wr := []) (wn := fun u => [(hQ, .inr (2, [.ref qp, .int (iI qz), .int (iI qf)])), (qp, .inl (cI, 320, .inl P))]) ⟨xe, xb, xml, xo, xt⟩ (c_Quads_has l D cI hQ qp P qz qf i (by first | assumption | omega) (by first | assumption | omega)) k_Quads_has mw_Quads_23 ⟨Nat.le_of_ble_eq_true rfl, Nat.le_of_ble_eq_true rfl⟩ xK xP xD xS xA rfl xl.1 rfl (Nat.le_of_ble_eq_true rfl) d_Quads_remove_2 ⟨Nat.zero_le _, Nat.zero_le _⟩ [0, 1] [] [0, 1] rfl rfl (by decide) (by decide) (by decide) (by decide) (fun _ => rfl) rfl rfl rfl (fun z_2 u H locs hr_3 hw_1 xP xD xS => ?_)
  try dsimp only at hw_1
  have xP : va_P D classes [(hQ, .inr (2, [.ref qp, .int (iI qz), .int (iI qf)])), (qp, .inl (cI, 320, .inl P))] H := xP
  have xD : va_D xA0 [(hQ, .inr (2, [.ref qp, .int (iI qz), .int (iI qf)])), (qp, .inl (cI, 320, .inl P))] := xD
  rcases hw_1 with ⟨rfl, hb_4⟩ | ⟨rfl, hb_5⟩
  · refine tk_if_ne (tgt := 9) xe xb d_Quads_remove_5 (by decide) (by omega) (fun c_6 => ?_) (fun c_6 => absurd c_6 (by omega))
    refine lv_iload_n xe xb d_Quads_remove_9 rfl (lv_at xl 1 rfl) ?_
    refine lv_iconst (v := iI (4)) xe xb d_Quads_remove_10 rfl ?_
    refine tk_imul xe xb d_Quads_remove_11 ?_
    refine lv_istore_n (lv' := [(2, .int (iI (i * 4))), (0, .ref hQ), (1, .int (iI i))]) xe xb d_Quads_remove_12 rfl xl (by decide) rfl (fun ls xl => ?_)
    have loop_13 : ∀ (n9 : Nat) (Pv : Nat → Int32) (k : Int), ((qz - 1) * 4 - k).toNat < n9 → (i * 4 ≤ k ∧ k ≤ (qz - 1) * 4) → (∀ j, 0 ≤ j → j < i * 4 → tI Pv j = tI P j) → (∀ j, i * 4 ≤ j → j < k → tI Pv j = tI P (j + 4)) → (∀ j, k ≤ j → tI Pv j = tI P j) → ∀ (H : Heap) (locs : List Loc), va_P D classes [(hQ, .inr (2, [.ref qp, .int (iI qz), .int (iI qf)])), (qp, .inl (cI, 320, .inl Pv))] H → va_D xA0 [(hQ, .inr (2, [.ref qp, .int (iI qz), .int (iI qf)])), (qp, .inl (cI, 320, .inl Pv))] → va_S xA0 xs.heap H locs → ∀ ls : Array Slot, lv_has ls 3 [(0, .ref hQ), (1, .int (iI i)), (2, .int (iI k))] → W xp l xe0 (tk_rm 1) xs xm xar xbelow xmeth xc H locs 0 0 xQ (F0 xm 13 ls []) := by
      intro n9
      induction n9 with
      | zero => intro Pv k h9; exact absurd h9 (Nat.not_lt_zero _)
      | succ n9 ih9 =>
        intro Pv k hm9 hk h1 h2 h3 H locs xP xD xS ls xl
        have ih_13 := ih9
        have hm_13 := hm9
        refine lv_iload_n xe xb d_Quads_remove_13 rfl (lv_at xl 2 rfl) ?_
        refine lv_iconst (v := iI (4)) xe xb d_Quads_remove_14 rfl ?_
        refine tk_iadd xe xb d_Quads_remove_15 ?_
        refine lv_aload_n xe xb d_Quads_remove_16 rfl (lv_at xl 0 rfl) ?_
        refine va_get (D := D) (ci := 2) (v := .int (iI qz)) (C := R_Quads) (T := F_Quads) (N := 3) xe xb xt i_Quads xo xK xP 0 rfl rfl 1 (by decide) (xt _ mw_Quads_15) (fun _ h9 => h9) rfl d_Quads_remove_17 ?_
        refine lv_iconst (v := iI (4)) xe xb d_Quads_remove_20 rfl ?_
        refine tk_imul xe xb d_Quads_remove_21 ?_
        refine tk_icmp_ge (tgt := 56) xe xb d_Quads_remove_22 (by decide) (by omega) (fun c_7 => ?_) (fun c_7 => ?_)
        · refine lv_aload_n xe xb d_Quads_remove_56 rfl (lv_at xl 0 rfl) ?_
          refine lv_dup xe xb d_Quads_remove_57 rfl ?_
          refine va_get (D := D) (ci := 2) (v := .int (iI qz)) (C := R_Quads) (T := F_Quads) (N := 3) xe xb xt i_Quads xo xK xP 0 rfl rfl 1 (by decide) (xt _ mw_Quads_15) (fun _ h9 => h9) rfl d_Quads_remove_58 ?_
          refine lv_iconst (v := iI (1)) xe xb d_Quads_remove_61 rfl ?_
          refine tk_isub xe xb d_Quads_remove_62 ?_
          refine va_put (D := D) (ci := 2) (v := .int (iI (qz - 1))) (ty := .int) (C := R_Quads) (T := F_Quads) (N := 3) xe xb xt i_Quads t_Quads t_Quads_ok n_Quads xo xK xP xD xS 0 rfl rfl 1 (by decide) (xt _ mw_Quads_15) (fun _ h9 => h9) rfl (by decide +kernel) rfl rfl (Nat.le_of_ble_eq_true rfl) d_Quads_remove_63 (fun H locs xP xD xS => ?_)
          have xP : va_P D classes [(hQ, .inr (2, [.ref qp, .int (iI (qz - 1)), .int (iI qf)])), (qp, .inl (cI, 320, .inl Pv))] H := xP
          have xD : va_D xA0 [(hQ, .inr (2, [.ref qp, .int (iI (qz - 1)), .int (iI qf)])), (qp, .inl (cI, 320, .inl Pv))] := xD
          exact xret _ _ _ _ (Pv, (qz - 1)) d_Quads_remove_66 (by first | exact (⟨rfl, lst_erase hi.1 hi.2 (fun a a0 a1 => by (unfold qdAt; rw [h1 _ (by omega) (by omega), h1 _ (by omega) (by omega), h1 _ (by omega) (by omega), h1 _ (by omega) (by omega)])) (fun a a0 a1 => by (unfold qdAt; rw [h2 _ (by omega) (by omega), h2 _ (by omega) (by omega), h2 _ (by omega) (by omega), h2 _ (by omega) (by omega), show a * 4 + 4 = (a + 1) * 4 by omega, show a * 4 + 1 + 4 = (a + 1) * 4 + 1 by omega, show a * 4 + 2 + 4 = (a + 1) * 4 + 2 by omega, show a * 4 + 3 + 4 = (a + 1) * 4 + 3 by omega]))⟩) | (dsimp only; exact (⟨rfl, lst_erase hi.1 hi.2 (fun a a0 a1 => by (unfold qdAt; rw [h1 _ (by omega) (by omega), h1 _ (by omega) (by omega), h1 _ (by omega) (by omega), h1 _ (by omega) (by omega)])) (fun a a0 a1 => by (unfold qdAt; rw [h2 _ (by omega) (by omega), h2 _ (by omega) (by omega), h2 _ (by omega) (by omega), h2 _ (by omega) (by omega), show a * 4 + 4 = (a + 1) * 4 by omega, show a * 4 + 1 + 4 = (a + 1) * 4 + 1 by omega, show a * 4 + 2 + 4 = (a + 1) * 4 + 2 by omega, show a * 4 + 3 + 4 = (a + 1) * 4 + 3 by omega]))⟩))) xP xD xS
        · refine lv_iload_n xe xb d_Quads_remove_25 rfl (lv_at xl 2 rfl) ?_
          refine lv_iconst (v := iI (4)) xe xb d_Quads_remove_26 rfl ?_
          refine tk_iadd xe xb d_Quads_remove_27 ?_
          refine lv_aload_n xe xb d_Quads_remove_28 rfl (lv_at xl 0 rfl) ?_
          refine va_get (D := D) (ci := 2) (v := .ref qp) (C := R_Quads) (T := F_Quads) (N := 3) xe xb xt i_Quads xo xK xP 0 rfl rfl 0 (by decide) (xt _ mw_Quads_9) (fun _ h9 => h9) rfl d_Quads_remove_29 ?_
          refine tk_alen xe xb xK xP 1 0 rfl rfl d_Quads_remove_32 ?_
          refine tk_icmp_ge (tgt := 56) xe xb d_Quads_remove_33 (by decide) (by omega) (fun c_8 => absurd c_8 (by omega)) (fun c_8 => ?_)
          refine lv_aload_n xe xb d_Quads_remove_36 rfl (lv_at xl 0 rfl) ?_
          refine va_get (D := D) (ci := 2) (v := .ref qp) (C := R_Quads) (T := F_Quads) (N := 3) xe xb xt i_Quads xo xK xP 0 rfl rfl 0 (by decide) (xt _ mw_Quads_9) (fun _ h9 => h9) rfl d_Quads_remove_37 ?_
          refine lv_iload_n xe xb d_Quads_remove_40 rfl (lv_at xl 2 rfl) ?_
          refine lv_aload_n xe xb d_Quads_remove_41 rfl (lv_at xl 0 rfl) ?_
          refine va_get (D := D) (ci := 2) (v := .ref qp) (C := R_Quads) (T := F_Quads) (N := 3) xe xb xt i_Quads xo xK xP 0 rfl rfl 0 (by decide) (xt _ mw_Quads_9) (fun _ h9 => h9) rfl d_Quads_remove_42 ?_
          refine lv_iload_n xe xb d_Quads_remove_45 rfl (lv_at xl 2 rfl) ?_
          refine lv_iconst (v := iI (4)) xe xb d_Quads_remove_46 rfl ?_
          refine tk_iadd xe xb d_Quads_remove_47 ?_
          refine tk_iald xe xb xK xP 1 0 rfl rfl (by omega) d_Quads_remove_48 ?_
          have hr_9 := tI_rg Pv (k + 4)
          refine tk_iast xe xb xK xP xD xS 1 0 rfl rfl (by omega) d_Quads_remove_49 (fun H locs xP xD xS => ?_)
          have xP : va_P D classes [(hQ, .inr (2, [.ref qp, .int (iI qz), .int (iI qf)])), (qp, .inl (cI, 320, .inl (fu Pv k (tI Pv (k + 4)))))] H := xP
          have xD : va_D xA0 [(hQ, .inr (2, [.ref qp, .int (iI qz), .int (iI qf)])), (qp, .inl (cI, 320, .inl (fu Pv k (tI Pv (k + 4)))))] := xD
          refine tk_iinc (v := (k + 1)) (lv' := [(2, .int (iI (k + 1))), (0, .ref hQ), (1, .int (iI i))]) xe xb d_Quads_remove_50 xl (k := 2) rfl rfl (by decide) rfl (fun ls xl => ?_)
          refine lv_goto (tgt := 13) xe xb d_Quads_remove_53 (by decide) ?_
          exact ih_13 (fu Pv k (tI Pv (k + 4))) (k + 1) (by omega) (by first | assumption | omega) (fun j a b => by rw [fu_ne (by omega) a (by omega)]; exact h1 j a b) (fun j a b => by (rcases (show j < k ∨ j = k by omega) with h9 | h9; (rw [fu_ne (by omega) (by omega) (by omega)]; exact h2 j a h9); (rw [h9, fu_eq (by omega)]; exact h3 _ (by omega)))) (fun j a => by rw [fu_ne (by omega) (by omega) (by omega)]; exact h3 j (by omega)) _ _ xP xD xS ls (lv_sub xl [1, 2, 0] rfl)
    exact loop_13 _ P (i * 4) (Nat.lt_succ_self _) (by first | assumption | omega) (fun _ _ _ => rfl) (fun j a b => by omega) (fun _ _ => rfl) _ _ xP xD xS ls (lv_sub xl [1, 2, 0] rfl)
  · refine tk_if_ne (tgt := 9) xe xb d_Quads_remove_5 (by decide) (by omega) (fun c_10 => absurd c_10 (by omega)) (fun c_10 => ?_)
    exact xret _ _ _ _ (P, qz) d_Quads_remove_8 (by first | exact (by omega) | (dsimp only; exact (by omega))) xP xD xS
