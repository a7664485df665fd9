/-! the two sides give the same -/
theorem num_rg {t : Int} (h : 0 ≤ t ∧ t < 120) : ∀ x ∈ num t, 32 ≤ x ∧ x ≤ 126 := by
  intro x hx
  unfold num at hx
  rcases List.mem_append.mp hx with hx | hx
  · split at hx
    · rw [List.mem_singleton.mp hx]; omega
    · simp at hx
  · rcases List.mem_append.mp hx with hx | hx
    · split at hx
      · rw [List.mem_singleton.mp hx]; omega
      · simp at hx
    · rw [List.mem_singleton.mp hx]; omega
theorem hc_rg {d : Int} (h : 0 ≤ d ∧ d < 16) : 32 ≤ hc d ∧ hc d ≤ 126 := by
  unfold hc
  split <;> omega
theorem ex_rg (c : Int) : ∀ k, ∀ x ∈ ex c k, 32 ≤ x ∧ x ≤ 126
  | 0, x, hx => by simp [ex] at hx
  | k + 1, x, hx => by
    rw [ex] at hx
    rcases List.mem_cons.mp hx with hx | hx
    · rw [hx]; exact hc_rg (hx_rg c _)
    · exact ex_rg c k x hx
theorem esc_rg (c : Int) : ∀ x ∈ esc c, 32 ≤ x ∧ x ≤ 126 := by
  intro x hx
  unfold esc at hx
  split at hx
  · rcases List.mem_cons.mp hx with hx | hx
    · omega
    · rcases List.mem_cons.mp hx with hx | hx
      · omega
      · exact ex_rg c 4 x hx
  · rcases List.mem_cons.mp hx with hx | hx
    · omega
    · rcases List.mem_cons.mp hx with hx | hx
      · omega
      · exact ex_rg c 8 x hx
theorem sgl_rg {c : Int} (h : sgl c ≠ -1) : 32 ≤ sgl c ∧ sgl c ≤ 126 := by
  unfold sgl at h ⊢
  repeat' split
  all_goals first | omega | (exfalso; simp_all)
theorem ct_rg (b c : Int) : ∀ x ∈ ct b c, 32 ≤ x ∧ x ≤ 126 := by
  intro x hx
  unfold ct at hx
  split at hx
  · rename_i h
    rcases List.mem_cons.mp hx with hx | hx
    · omega
    · rw [List.mem_singleton.mp hx]; exact sgl_rg h.2
  · split at hx
    · rw [List.mem_singleton.mp hx]; omega
    · exact esc_rg c x hx
theorem cts_rg (b : Int) : ∀ (l : List Int), ∀ x ∈ cts b l, 32 ≤ x ∧ x ≤ 126
  | [], x, hx => by simp [cts] at hx
  | c :: l, x, hx => by
    rw [cts] at hx
    rcases List.mem_append.mp hx with hx | hx
    · exact ct_rg b c x hx
    · exact cts_rg b l x hx
theorem tcd_rg (v : Tm) : ∀ x ∈ tcd v, 32 ≤ x ∧ x ≤ 126 := by
  intro x hx
  unfold tcd at hx
  split at hx
  · rcases List.mem_cons.mp hx with hx | hx
    · omega
    · rcases List.mem_append.mp hx with hx | hx
      · exact cts_rg _ _ x hx
      · rw [List.mem_singleton.mp hx]; omega
  · rcases List.mem_cons.mp hx with hx | hx
    · omega
    · rcases List.mem_append.mp hx with hx | hx
      · exact cts_rg _ _ x hx
      · rw [List.mem_singleton.mp hx]; omega
theorem tx_rg {g : Int → Tm} {n t : Int} (hn : n ≤ 120) (hw : ∀ j, 0 ≤ j → j < n → sgO (g j).2.2.1) : ∀ x ∈ tx g n t, 32 ≤ x ∧ x ≤ 126 := by
  intro x hx
  unfold tx at hx
  split at hx
  · rename_i ht
    rcases List.mem_append.mp hx with hx | hx
    · split at hx
      · unfold lbl at hx
        rcases List.mem_cons.mp hx with hx | hx
        · omega
        · rcases List.mem_cons.mp hx with hx | hx
          · omega
          · rcases List.mem_cons.mp hx with hx | hx
            · omega
            · exact num_rg (by omega) x hx
      · exact tcd_rg _ x hx
    · rcases List.mem_append.mp hx with hx | hx
      · unfold tgp at hx
        split at hx
        · simp at hx
        · rcases List.mem_cons.mp hx with hx | hx
          · omega
          · have := hw t ht.1 ht.2 x hx
            omega
      · rcases List.mem_append.mp hx with hx | hx
        · unfold tyq at hx
          split at hx
          · rcases List.mem_cons.mp hx with hx | hx
            · omega
            · rcases List.mem_cons.mp hx with hx | hx
              · omega
              · exact tcd_rg _ x hx
          · simp at hx
        · rw [List.mem_singleton.mp hx]; omega
  · simp at hx
theorem qln_rg {g : Int → Tm} {n : Int} {q : Qd} (hn : n ≤ 120) (hw : ∀ j, 0 ≤ j → j < n → sgO (g j).2.2.1) : okl (qln g n q) ∧ ∀ x ∈ qln g n q, 0 ≤ x ∧ x < 256 := by
  have e : qln g n q = (tx g n q.1 ++ (tx g n q.2.1 ++ (tx g n q.2.2.1 ++ (tx g n q.2.2.2 ++ [46])))) ++ [10] := by unfold qln; simp
  have hb : ∀ x ∈ tx g n q.1 ++ (tx g n q.2.1 ++ (tx g n q.2.2.1 ++ (tx g n q.2.2.2 ++ [46]))), 32 ≤ x ∧ x ≤ 126 := by
    intro x hx
    rcases List.mem_append.mp hx with hx | hx
    · exact tx_rg hn hw x hx
    · rcases List.mem_append.mp hx with hx | hx
      · exact tx_rg hn hw x hx
      · rcases List.mem_append.mp hx with hx | hx
        · exact tx_rg hn hw x hx
        · rcases List.mem_append.mp hx with hx | hx
          · exact tx_rg hn hw x hx
          · rw [List.mem_singleton.mp hx]; omega
  rw [e]
  refine ⟨okl_app (fun h => by have := hb 10 h; omega), ?_⟩
  intro x hx
  rcases List.mem_append.mp hx with hx | hx
  · have := hb x hx; omega
  · rw [List.mem_singleton.mp hx]; omega
theorem tx_congr {g g' : Int → Tm} {n t : Int} (h : ∀ j, 0 ≤ j → j < n → g j = g' j) : tx g n t = tx g' n t := by
  unfold tx
  by_cases ht : 0 ≤ t ∧ t < n
  · rw [if_pos ht, if_pos ht, h t ht.1 ht.2]
    have e : tyq g n (g' t).2.2.2 = tyq g' n (g' t).2.2.2 := by
      unfold tyq
      by_cases hy : 0 ≤ (g' t).2.2.2 ∧ (g' t).2.2.2 < n
      · rw [if_pos hy, if_pos hy, h _ hy.1 hy.2]
      · rw [if_neg hy, if_neg hy]
    rw [e]
  · rw [if_neg ht, if_neg ht]
theorem qln_congr {g g' : Int → Tm} {n : Int} {q : Qd} (h : ∀ j, 0 ≤ j → j < n → g j = g' j) : qln g n q = qln g' n q := by
  unfold qln
  rw [tx_congr h, tx_congr h, tx_congr h, tx_congr h]
theorem prO_congr {L L' : Int → List Int} {m form : Int} {X : List Int} (hL : ∀ j, 0 ≤ j → j < m → L j = L' j) (h : prO L m form X) : prO L' m form X := by
  obtain ⟨o, a1, a2, a3, a4⟩ := h
  have hin : ∀ a ∈ o, L a = L' a := fun a ha => by
    have := of_mem_id (a1.subset ha)
    exact hL a this.1 this.2
  refine ⟨o, a1, a2, fun e => ?_, ?_⟩
  · refine (a3 e).imp_of_mem ?_
    intro a b ha hb hab
    unfold Rle at hab ⊢
    rw [hin a ha, hin b hb] at hab
    exact hab
  · rw [a4, List.map_congr_left hin]
theorem prA_uni {L L' : Int → List Int} {m form z z' : Int} {X Y Y' : List Int} (hL : ∀ j, 0 ≤ j → j < m → L j = L' j) (hk : ∀ j, 0 ≤ j → j < m → okl (L j)) (h : prA L m form z X Y) (h' : prA L' m form z' X Y') : z = z' ∧ Y = Y' := by
  have e : lst L m = lst L' m := lst_ext hL
  rcases h with a | a | a
  · rcases h' with b | b | b
    · exact ⟨by omega, by rw [a.2.2, b.2.2]⟩
    · exact absurd b.1 a.1
    · exact absurd b.1 a.1
  · rcases h' with b | b | b
    · exact absurd a.1 b.1
    · exact ⟨by omega, by rw [a.2.2.2, b.2.2.2]⟩
    · rw [← e] at b; omega
  · rcases h' with b | b | b
    · exact absurd a.1 b.1
    · rw [← e] at b; omega
    · have q := prO_uni a.1 hk a.2.2.2 (prO_congr (fun j h0 h1 => (hL j h0 h1).symm) b.2.2.2)
      exact ⟨by rw [a.2.2.1, b.2.2.1, q], q⟩
theorem prA_byt {L : Int → List Int} {m form z : Int} {X Y : List Int} (hX : byt X) (hb : ∀ j, 0 ≤ j → j < m → ∀ x ∈ L j, 0 ≤ x ∧ x < 256) (h : prA L m form z X Y) : byt Y := by
  rcases h with a | a | a
  · rw [a.2.2]; exact hX
  · rw [a.2.2.2]; exact hX
  · obtain ⟨o, a1, a2, a3, a4⟩ := a.2.2.2
    intro x hx
    rw [a4] at hx
    obtain ⟨l, hl, hxl⟩ := List.mem_flatten.mp hx
    obtain ⟨j, hj, rfl⟩ := List.mem_map.mp hl
    have := of_mem_id (a1.subset hj)
    exact hb j this.1 this.2 x hxl
theorem tb_byt (b : Int) : ∀ k, byt (tb b k)
  | 0 => fun x hx => by simp [tb] at hx
  | k + 1 => fun x hx => by
    rw [tb] at hx
    rcases List.mem_cons.mp hx with hx | hx
    · rw [hx]; exact anI_255 _
    · exact tb_byt b k x hx
theorem byt_app {X Y : List Int} (hx : byt X) (hy : byt Y) : byt (X ++ Y) := fun x h => (List.mem_append.mp h).elim (hx x) (hy x)
theorem tyA_uni {b n z z' : Int} {X Y Y' : List Int} (h : tyA b n z X Y) (h' : tyA b n z' X Y') : z = z' ∧ Y = Y' := by
  rcases h with a | a | a
  · rcases h' with b | b | b
    · exact ⟨by omega, by rw [a.2.2, b.2.2]⟩
    · exact absurd b.1 a.1
    · exact absurd b.1 a.1
  · rcases h' with b | b | b
    · exact absurd a.1 b.1
    · exact ⟨by omega, by rw [a.2.2.2, b.2.2.2]⟩
    · omega
  · rcases h' with b | b | b
    · exact absurd a.1 b.1
    · omega
    · exact ⟨by omega, by rw [a.2.2.2, b.2.2.2]⟩
theorem tyA_byt {b n z : Int} {X Y : List Int} (hX : byt X) (h : tyA b n z X Y) : byt Y := by
  rcases h with a | a | a
  · rw [a.2.2]; exact hX
  · rw [a.2.2.2]; exact hX
  · rw [a.2.2.2]; exact byt_app hX (tb_byt b _)
theorem rAns_uni {L : Except Int Jst} {T : List Int} {g g' : Int → Int} {n re z z' li li' re2 re2' : Int} {ts ts2 ts2' : List Tm} {qs qs2 qs2' : List Qd} (hg : ∀ k, 0 ≤ k → k ≤ n → cnt g k = cnt g' k) (hn : 0 ≤ n) (h : rAns L T g n ts qs re z li ts2 qs2 re2) (h' : rAns L T g' n ts qs re z' li' ts2' qs2' re2') : z = z' ∧ li = li' ∧ ts2 = ts2' ∧ qs2 = qs2' ∧ re2 = re2' := by
  rcases h with ⟨k, a1, a2, a3, a4, a5, a6, a7, a8⟩ | ⟨J, a1, a2, a3⟩
  · rcases h' with ⟨k', b1, b2, b3, b4, b5, b6, b7, b8⟩ | ⟨J, b1, -⟩
    · rw [a1] at b1
      injection b1 with b1
      subst b1
      exact ⟨by omega, by rw [a5, b5, hg k a2 a3], by rw [a6, b6], by rw [a7, b7], by omega⟩
    · rw [a1] at b1; injection b1
  · rcases h' with ⟨k', b1, -⟩ | ⟨J', b1, b2, b3⟩
    · rw [a1] at b1; injection b1
    · rw [a1] at b1
      injection b1 with b1
      subst b1
      have hl : li = li' := by rw [a2, b2, hg n hn (Int.le_refl n)]
      rcases a3 with a | a
      · rcases b3 with b | b
        · exact ⟨by rw [a.2.2.1, b.2.2.1], hl, by rw [a.2.2.2.1, b.2.2.2.1], by rw [a.2.2.2.2.1, b.2.2.2.2.1], by rw [a.2.2.2.2.2, b.2.2.2.2.2]⟩
        · exact absurd ⟨a.1, a.2.1⟩ b.1
      · rcases b3 with b | b
        · exact absurd ⟨b.1, b.2.1⟩ a.1
        · exact ⟨by rw [a.2.1, b.2.1], hl, by rw [a.2.2.1, b.2.2.1], by rw [a.2.2.2.1, b.2.2.2.1], by rw [a.2.2.2.2, b.2.2.2.2]⟩
theorem rAns_wf {T T0 : List Int} {g : Int → Int} {n re z li re2 fr p : Int} {k : Nat} {ts ts2 : List Tm} {qs qs2 : List Qd} (hfr : 0 ≤ fr) (ht : wfT_ ts) (hq : wfQ (ts.length : Int) qs) (h : rAns (ln T fr k p (ts, 0, qs, 0)) T0 g n ts qs re z li ts2 qs2 re2) : wfT_ ts2 ∧ wfQ (ts2.length : Int) qs2 ∧ (re2 = re ∨ re2 = re + 1) := by
  rcases h with ⟨k', a1, a2, a3, a4, a5, a6, a7, a8⟩ | ⟨J, a1, a2, a3⟩
  · rw [a6, a7]; exact ⟨ht, hq, Or.inl a8⟩
  · rcases a3 with a | a
    · have w := ln_wf hfr k p _ J ⟨ht, Or.inl rfl, hq⟩ a1
      rw [a.2.2.2.1, a.2.2.2.2.1]
      exact ⟨w.1, w.2.2, Or.inr a.2.2.2.2.2⟩
    · rw [a.2.2.1, a.2.2.2.1]; exact ⟨ht, hq, Or.inl a.2.2.2.2⟩
theorem cnt_lst {f f' : Nat → Int32} {n m : Int} (h0 : 0 ≤ n) (h1 : 0 ≤ m) (h : lst (tI f) n = lst (tI f') m) : ∀ k, 0 ≤ k → k ≤ n → cnt (tI f) k = cnt (tI f') k := by
  have e := lst_eqn h0 h1 h
  subst e
  exact fun k k0 k1 => cnt_ext (fun i i0 i1 => lst_eq h i i0 (by omega))
/-! the arrays behind the lists -/
section BR
variable {K Ln C TL TG TY K' Ln' C' TL' TG' TY' P P' : Nat → Int32} {n m t i w : Int}
theorem tm_parts (h : tmAt K Ln C TL TG TY t = tmAt K' Ln' C' TL' TG' TY' t) (a : 0 ≤ tI Ln t) (b : 0 ≤ tI Ln' t) (c : 0 ≤ tI TL t) (d : 0 ≤ tI TL' t) : tI K t = tI K' t ∧ tI Ln t = tI Ln' t ∧ tI TL t = tI TL' t ∧ tI TY t = tI TY' t ∧ seg C (t * 40) (tI Ln t) = seg C' (t * 40) (tI Ln' t) := by
  simp only [tmAt, Prod.mk.injEq] at h
  exact ⟨h.1, lst_eqn a b h.2.1, lst_eqn c d h.2.2.1, h.2.2.2, h.2.1⟩
theorem wfT_at (hs : tOk Ln TL n) (hw : wfT_ (lst (tmAt K Ln C TL TG TY) n)) (h0 : 0 ≤ t) (h1 : t < n) : wfT K TL TY n t ∧ -1 ≤ tI TY t := by
  have hb := hs.2.2 t h0 h1
  obtain ⟨a1, a2, a3, a4, a5⟩ := hw _ (mem_lst (g := tmAt K Ln C TL TG TY) h0 h1)
  have a2 : tI K t ≠ 2 → seg TG (t * 16) (tI TL t) = [] ∧ tI TY t = -1 := a2
  have a3 : seg TG (t * 16) (tI TL t) ≠ [] → tI TY t = -1 := a3
  have a4 : tI TY t = -1 ∨ isK0 (lst (tmAt K Ln C TL TG TY) n) (tI TY t) := a4
  have h4 : tI TY t = -1 ∨ (0 ≤ tI TY t ∧ tI TY t < n ∧ tI K (tI TY t) = 0) := by
    rcases a4 with q | ⟨q0, w, q1, q2⟩
    · exact Or.inl q
    · have hl := (List.getElem?_eq_some_iff.mp q1).1
      rw [lst_length] at hl
      rw [lst_get q0 (by omega)] at q1
      injection q1 with q1
      rw [← q1] at q2
      exact Or.inr ⟨q0, by omega, q2⟩
  refine ⟨⟨a1, fun q => ?_, fun q => a3 (seg_ne q), h4⟩, by omega⟩
  obtain ⟨b1, b2⟩ := a2 q
  refine ⟨?_, b2⟩
  by_cases c : 0 < tI TL t
  · exact absurd b1 (seg_ne c)
  · omega
theorem sg_at (hw : wfT_ (lst (tmAt K Ln C TL TG TY) n)) (h0 : 0 ≤ t) (h1 : t < n) : sgO (tmAt K Ln C TL TG TY t).2.2.1 := (hw _ (mem_lst (g := tmAt K Ln C TL TG TY) h0 h1)).2.2.2.2
theorem qd_at (hq : wfQ m (lst (qdAt P) n)) (h0 : 0 ≤ i) (h1 : i < n) (hw : 0 ≤ w ∧ w < 4) : -1 ≤ tI P (i * 4 + w) ∧ tI P (i * 4 + w) < m := by
  obtain ⟨a, b, c, d⟩ := hq _ (mem_lst (g := qdAt P) h0 h1)
  have a : inR m (tI P (i * 4)) := a
  have b : inR m (tI P (i * 4 + 1)) := b
  have c : inR m (tI P (i * 4 + 2)) := c
  have d : inR m (tI P (i * 4 + 3)) := d
  unfold inR at a b c d
  obtain rfl | rfl | rfl | rfl : w = 0 ∨ w = 1 ∨ w = 2 ∨ w = 3 := by omega
  · rw [Int.add_zero]; exact a
  · exact b
  · exact c
  · exact d
theorem qd_all (hq : wfQ m (lst (qdAt P) n)) : ∀ j, 0 ≤ j → j < 4 * n → tI P j < m := by
  intro j j0 j1
  have h := qd_at (i := j / 4) (w := j % 4) hq (by omega) (by omega) (by omega)
  rw [show j / 4 * 4 + j % 4 = j by omega] at h
  exact h.2
theorem qd_same (h : lst (qdAt P) n = lst (qdAt P') n) (h0 : 0 ≤ i) (h1 : i < n) (hw : 0 ≤ w ∧ w < 4) : tI P (i * 4 + w) = tI P' (4 * i + w) := by
  have e := lst_eq h i h0 h1
  simp only [qdAt, Prod.mk.injEq] at e
  rw [Int.mul_comm 4 i]
  obtain rfl | rfl | rfl | rfl : w = 0 ∨ w = 1 ∨ w = 2 ∨ w = 3 := by omega
  · rw [Int.add_zero]; exact e.1
  · exact e.2.1
  · exact e.2.2.1
  · exact e.2.2.2
theorem qAns_eq (h : lst (qdAt P) n = lst (qdAt P') n) (hq : wfQ m (lst (qdAt P) n)) : qAns P n i w = qAnM P' n i w := by
  unfold qAns qAnM
  by_cases c : (0 ≤ i ∧ i < n) ∧ 0 ≤ w ∧ w < 4
  · rw [if_pos c, if_pos c, ← qd_same h c.1.1 c.1.2 c.2]
    have := (qd_at hq c.1.1 c.1.2 c.2).1
    split <;> split <;> omega
  · rw [if_neg c, if_neg c]
theorem tAns_eq (h : lst (tmAt K Ln C TL TG TY) n = lst (tmAt K' Ln' C' TL' TG' TY') n) (hs : tOk Ln TL n) (hs' : tOk Ln' TL' n) (hw : wfT_ (lst (tmAt K Ln C TL TG TY) n)) : tAns K Ln TL TY n t w = tAnM K' Ln' TL' TY' n t w := by
  unfold tAns tAnM
  by_cases c : 0 ≤ t ∧ t < n
  · rw [if_pos c, if_pos c]
    have b := hs.2.2 t c.1 c.2
    have b' := hs'.2.2 t c.1 c.2
    obtain ⟨e1, e2, e3, e4, -⟩ := tm_parts (lst_eq h t c.1 c.2) b.1 b'.1 b.2.2.1 b'.2.2.1
    obtain ⟨⟨-, -, f3, -⟩, f5⟩ := wfT_at hs hw c.1 c.2
    rw [← e1, ← e2, ← e3, ← e4]
    repeat' split
    all_goals omega
  · rw [if_neg c, if_neg c]
theorem cAns_eq (h : lst (tmAt K Ln C TL TG TY) n = lst (tmAt K' Ln' C' TL' TG' TY') n) (hs : tOk Ln TL n) (hs' : tOk Ln' TL' n) : cAns Ln C n t i = cAnM Ln' C' n t i := by
  unfold cAns cAnM
  by_cases c : 0 ≤ t ∧ t < n
  · have b := hs.2.2 t c.1 c.2
    have b' := hs'.2.2 t c.1 c.2
    obtain ⟨e1, e2, e3, e4, e5⟩ := tm_parts (lst_eq h t c.1 c.2) b.1 b'.1 b.2.2.1 b'.2.2.1
    by_cases d : 0 ≤ i ∧ i < tI Ln t
    · rw [if_pos ⟨c, d.1, d.2, by omega⟩, if_pos ⟨c, d.1, by omega⟩]
      rw [← e2] at e5
      rw [Int.mul_comm 40 t]
      exact lst_eq e5 i d.1 d.2
    · rw [if_neg (fun q => d ⟨q.2.1, q.2.2.1⟩), if_neg (fun q => d ⟨q.2.1, by rw [e2]; exact q.2.2⟩)]
  · rw [if_neg (fun q => c q.1), if_neg (fun q => c q.1)]
end BR
theorem wfQ_erase {n : Int} {qs : List Qd} {k : Nat} (h : wfQ n qs) : wfQ n (qs.eraseIdx k) := fun q hq => h q (List.mem_of_mem_eraseIdx hq)
