/-! the reference reads a literal, a term -/
theorem fill_step {T : List Int} {MD : Nat → Int32} {q s c : Int} (hs : 0 ≤ s) (hc : c = rd T (q + s)) (hr : -2147483648 ≤ c ∧ c < 2147483648) (h : lst (tI MD) s = lst (fun i => rd T (q + i)) s) : lst (tI (fu MD s c)) (s + 1) = lst (fun i => rd T (q + i)) (s + 1) := by
  rw [lst_push MD hs hr, h, lst_succ _ hs, hc]
/-- copying a row, number by number -/
theorem cpy_step {f g : Nat → Int32} {k : Int} (hk : 0 ≤ k) (h : ∀ j, 0 ≤ j → j < k → tI g j = tI f j) : ∀ j, 0 ≤ j → j < k + 1 → tI (fu g k (tI f k)) j = tI f j := by
  intro j j0 j1
  by_cases e : j = k
  · subst e; exact fu_eq (tI_rg _ _)
  · rw [fu_ne hk j0 e]; exact h j j0 (by omega)
/-- the two hats -/
def HtI (T : List Int) (n p q f : Int) : Prop := (0 ≤ q ∧ q ≤ n) ∧ ((0 ≤ f ∧ f ≤ n ∧ f = p + 1 ∧ rd T (p + 1) ≠ 94) ∨ (f = -1 ∧ q = p + 2 ∧ rd T (p + 1) = 94))
/-- a type's reading: its codes y, or nothing -/
def TyO (T : List Int) (n p p2 f2 ov z ov2 : Int) (ts2 ts : List Tm) : Prop := (0 ≤ p2 ∧ p2 ≤ n) ∧ ((0 ≤ f2 ∧ f2 ≤ n ∧ z = 0 ∧ ov2 = ov ∧ ts2 = ts ∧ ((rd T (p + 1) ≠ 94 ∧ f2 = p + 1) ∨ (rd T (p + 1) = 94 ∧ rc T 0 (p + 2) = .error f2))) ∨ (f2 = -1 ∧ rd T (p + 1) = 94 ∧ ∃ y, rc T 0 (p + 2) = .ok (p2, y) ∧ mT ts2 ov2 z ts ov 0 (0, y, [], none)))
theorem mT_fr {ts2 ts : List Tm} {ov2 z ov fr fr2 : Int} {l : List Int} (h : mT ts2 ov2 z ts ov fr (0, l, [], none)) : mT ts2 ov2 z ts ov fr2 (0, l, [], none) := h
theorem TyO_of {T : List Int} {n p q f p2 f2 ov z ov2 fr : Int} {ts2 ts : List Tm} (h : HtI T n p q f) (hr : RsM n f p2 f2 ov (ndE (rc T 0 q)) z ov2 ts2 ts fr) : TyO T n p p2 f2 ov z ov2 ts2 ts := by
  refine ⟨hr.1, ?_⟩
  rcases h.2 with a | a
  · rcases hr.2 with b | b | b
    · exact Or.inl ⟨by omega, by omega, b.2.2.1, b.2.2.2.1, b.2.2.2.2, Or.inl ⟨a.2.2.2, by omega⟩⟩
    · omega
    · omega
  · rcases hr.2 with b | b | b
    · omega
    · obtain ⟨-, ⟨k, c1, c2, c3, c4⟩, d1, d2, d3⟩ := b
      refine Or.inl ⟨by omega, by omega, d1, d2, d3, Or.inr ⟨a.2.2, ?_⟩⟩
      cases e : rc T 0 q with
      | error k2 =>
        rw [e] at c1
        injection c1 with c1
        rw [← a.2.1, e, c2, c1]
      | ok d => rw [e] at c1; injection c1
    · obtain ⟨-, x, m, c1, c2, c3, c4⟩ := b
      refine Or.inr ⟨c2, a.2.2, ?_⟩
      cases e : rc T 0 q with
      | error k2 => rw [e] at c1; injection c1
      | ok d =>
        obtain ⟨y, l⟩ := d
        rw [e] at c1
        injection c1 with c1
        injection c1 with c5 c6
        refine ⟨l, by rw [← a.2.1, e, c3, c5], ?_⟩
        rw [← c6] at c4
        exact c4
theorem TyO_rg {T : List Int} {n p p2 f2 ov z ov2 : Int} {ts2 ts : List Tm} (h : TyO T n p p2 f2 ov z ov2 ts2 ts) : (0 ≤ p2 ∧ p2 ≤ n) ∧ (f2 = -1 ∨ (0 ≤ f2 ∧ f2 ≤ n)) := by
  refine ⟨h.1, ?_⟩
  rcases h.2 with a | a
  · exact Or.inr ⟨a.1, a.2.1⟩
  · exact Or.inl a.1
/-- behind a literal's codes, before its note: m what it is, ts the terms before, ts1 now -/
def LtI (T : List Int) (n p p2 f2 ov ov1 ty : Int) (l g : List Int) (ts1 ts : List Tm) : Prop := (0 ≤ p2 ∧ p2 ≤ n) ∧ ((0 ≤ f2 ∧ f2 ≤ n ∧ ov1 = ov ∧ ts1 = ts ∧ lit T p = .error f2) ∨ (f2 = -1 ∧ ov1 = ov ∧ ts1 = ts ∧ ty = -1 ∧ lit T p = .ok (p2, (2, l, g, none))) ∨ (f2 = -1 ∧ g = [] ∧ ∃ y, lit T p = .ok (p2, (2, l, [], some y)) ∧ mT ts1 ov1 ty ts ov 0 (0, y, [], none)))
theorem LtI_dead {T : List Int} {n p0 p f sz ov ty : Int} {MD : Nat → Int32} {g : List Int} {ts : List Tm} (h : NdR T 2 n (-1) p0 p f sz MD) (hf : 0 ≤ f) : LtI T n p0 p f ov ov ty (lst (tI MD) sz) g ts ts := by
  refine ⟨h.1, Or.inl ?_⟩
  rcases h.2.2 with a | a | a
  · omega
  · exact ⟨a.2.1, a.2.2.1, rfl, rfl, lit_err a.2.2.2⟩
  · omega
theorem NdR_ok {T : List Int} {kd n p0 p f sz : Int} {MD : Nat → Int32} (h : NdR T kd n (-1) p0 p f sz MD) (hf : f < 0) : f = -1 ∧ rc T kd p0 = .ok (p, lst (tI MD) sz) := by
  rcases h.2.2 with a | a | a
  · omega
  · omega
  · exact a.2
theorem LtI_plain {T : List Int} {n p0 p f sz ov c : Int} {MD : Nat → Int32} {ts : List Tm} (h : NdR T 2 n (-1) p0 p f sz MD) (hf : f < 0) (hc : c = rd T p) (h1 : c ≠ 64) (h2 : c ≠ 94) : LtI T n p0 p f ov ov (-1) (lst (tI MD) sz) [] ts ts := by
  have e := NdR_ok h hf
  exact ⟨h.1, Or.inr (Or.inl ⟨e.1, rfl, rfl, rfl, lit_ok e.2 (litE_plain rfl hc h1 h2)⟩)⟩
theorem LtI_tag {T : List Int} {n p0 p f sz ov c p2 f2 tz : Int} {MD TA : Nat → Int32} {ts : List Tm} (h : NdR T 2 n (-1) p0 p f sz MD) (hf : f < 0) (hc : c = rd T p) (h1 : c = 64) (ht : TgO T n (p + 1) p2 f2 tz TA) : LtI T n p0 p2 f2 ov ov (-1) (lst (tI MD) sz) (lst (tI TA) tz) ts ts := by
  have e := NdR_ok h hf
  refine ⟨ht.1, ?_⟩
  rcases ht.2.2 with a | a
  · exact Or.inl ⟨a.1, a.2.1, rfl, rfl, lit_ok e.2 (litE_terr rfl rfl (hc.symm.trans h1) a.2.2)⟩
  · exact Or.inr (Or.inl ⟨a.1, rfl, rfl, rfl, lit_ok e.2 (litE_tok rfl rfl (hc.symm.trans h1) a.2)⟩)
theorem LtI_ty {T : List Int} {n p0 p f sz ov c p2 f2 z ov1 : Int} {MD : Nat → Int32} {l : List Int} {ts1 ts : List Tm} (h : NdR T 2 n (-1) p0 p f sz MD) (hf : f < 0) (hc : c = rd T p) (h1 : c = 94) (hl : l = lst (tI MD) sz) (ht : TyO T n p p2 f2 ov z ov1 ts1 ts) : LtI T n p0 p2 f2 ov ov1 z l [] ts1 ts := by
  subst hl
  have e := NdR_ok h hf
  have hr : rd T p = 94 := hc.symm.trans h1
  refine ⟨ht.1, ?_⟩
  rcases ht.2 with ⟨a1, a2, a3, a4, a5, a6⟩ | ⟨a1, a2, y, a3, a4⟩
  · refine Or.inl ⟨a1, a2, a4, a5, ?_⟩
    rcases a6 with b | b
    · rw [lit_ok e.2 (litE_nohat rfl rfl hr b.1), b.2]
    · exact lit_ok e.2 (litE_h2err rfl rfl rfl hr b.1 (by rw [show p + 1 + 1 = p + 2 by omega]; exact b.2))
  · exact Or.inr (Or.inr ⟨a1, rfl, y, lit_ok e.2 (litE_h2ok rfl rfl rfl hr a2 (by rw [show p + 1 + 1 = p + 2 by omega]; exact a3)), a4⟩)
theorem LtI_f {T : List Int} {n p p2 f2 ov ov1 ty : Int} {l g : List Int} {ts1 ts : List Tm} (hov : ov = 0 ∨ ov = 1) (h : LtI T n p p2 f2 ov ov1 ty l g ts1 ts) : (0 ≤ p2 ∧ p2 ≤ n) ∧ (f2 = -1 ∨ (0 ≤ f2 ∧ f2 ≤ n)) ∧ (ov1 = 0 ∨ ov1 = 1) := by
  refine ⟨h.1, ?_⟩
  rcases h.2 with a | a | ⟨a, b, y, c, d⟩
  · omega
  · omega
  · rcases d with d | d | d <;> omega
theorem itn_1 {ts : List Tm} {a : Int} {v : Tm} : (itn ts 1 a v).2.1 = 1 := by
  unfold itn
  split
  · rfl
  · split <;> rfl
theorem RsM_lit {T : List Int} {n p p2 f2 ov ov1 ov2 ty z fr : Int} {l g : List Int} {ts2 ts1 ts : List Tm} (hov : ov = 0 ∨ ov = 1) (h : LtI T n p p2 f2 ov ov1 ty l g ts1 ts) (hn : (f2 < 0 ∧ ov1 = 0 ∧ nOutM ts2 ov2 z ts1 0 (2, l, g, ty)) ∨ (¬ (f2 < 0 ∧ ov1 = 0) ∧ z = 0 ∧ ov2 = ov1 ∧ ts2 = ts1)) : RsM n (-1) p2 f2 ov (lit T p) z ov2 ts2 ts fr := by
  refine ⟨h.1, ?_⟩
  rcases h.2 with ⟨a1, a2, a3, a4, a5⟩ | ⟨a1, a2, a3, a4, a5⟩ | ⟨a1, a2, y, a3, a4⟩
  · rcases hn with b | b
    · omega
    · exact Or.inr (Or.inl ⟨rfl, ⟨f2, a5, rfl, a1, a2⟩, b.2.1, by omega, by rw [b.2.2.2, a4]⟩)
  · subst a3; subst a4
    refine Or.inr (Or.inr ⟨rfl, p2, _, a5, a1, rfl, ?_⟩)
    rcases hn with b | b
    · rcases itn_M (Int.le_refl 0) b.2.2 with c | c
      · exact Or.inr (Or.inl ⟨by omega, c.1, c.2.1⟩)
      · exact Or.inr (Or.inr ⟨by omega, c.1, c.2.1, ⟨[], by rw [c.2.2, List.append_nil]⟩⟩)
    · exact Or.inl ⟨by omega, b.2.1, by omega, b.2.2.2⟩
  · subst a2
    refine Or.inr (Or.inr ⟨rfl, p2, _, a3, a1, rfl, ?_⟩)
    rcases a4 with c | c | c
    · rcases hn with b | b
      · omega
      · exact Or.inl ⟨c.1, b.2.1, by omega, by rw [b.2.2.2, c.2.2.2]⟩
    · rcases hn with b | b
      · rcases itn_M (Int.le_refl 0) b.2.2 with d | d
        · exact Or.inr (Or.inl ⟨c.1, d.1, itT_some c.2.2 d.2.1⟩)
        · refine Or.inr (Or.inr ⟨c.1, d.1, ?_, ?_⟩)
          · show (itn (itn ts 0 0 (0, y, [], -1)).1 (itn ts 0 0 (0, y, [], -1)).2.1 0 (2, l, [], (itn ts 0 0 (0, y, [], -1)).2.2)).2.1 = 1
            have e : itn ts 0 0 (0, y, [], -1) = (ts1, 0, ty) := c.2.2.symm
            rw [e]
            exact d.2.1
          · rw [d.2.2]
            have e : (ts1, 0, ty) = itn ts 0 0 (0, y, [], -1) := c.2.2
            unfold itn at e
            split at e
            · injection e with e1 e2; exact ⟨[], by rw [e1, List.append_nil]⟩
            · split at e
              · injection e with e1 e2; exact ⟨_, e1⟩
              · injection e with e1 e2; exact ⟨[], by rw [e1, List.append_nil]⟩
      · omega
    · rcases hn with b | b
      · omega
      · refine Or.inr (Or.inr ⟨c.1, by omega, ?_, ?_⟩)
        · show (itn (itn ts 0 0 (0, y, [], -1)).1 (itn ts 0 0 (0, y, [], -1)).2.1 0 (2, l, [], (itn ts 0 0 (0, y, [], -1)).2.2)).2.1 = 1
          have e : (itn ts 0 0 (0, y, [], -1)).2.1 = 1 := c.2.2.1
          rw [e]
          exact itn_1
        · rw [b.2.2.2]; exact c.2.2.2
theorem rtm_n {T : List Int} {lk p : Int} (h : rd T p = 60) : rtm T lk p = ndE (rc T 0 p) := by
  unfold rtm
  rw [if_pos h]
  cases rc T 0 p <;> rfl
theorem RsM_no {n p f2 ov lk : Int} {T : List Int} {ts : List Tm} {fr z c : Int} (h0 : 0 ≤ p ∧ p ≤ n) (hc : c = rd T p) (h1 : c ≠ 60) (h2 : ¬ (c = 95 ∧ 1 ≤ lk)) (h3 : ¬ (c = 34 ∧ 2 ≤ lk)) (hf : f2 = p) (hz : z = 0) : RsM n (-1) p f2 ov (rtm T lk p) z ov ts ts fr := ⟨h0, Or.inr (Or.inl ⟨rfl, ⟨p, rtm_no hc h1 h2 h3, hf, h0.1, h0.2⟩, hz, rfl, rfl⟩)⟩
theorem itn_pre {ts : List Tm} {fl a : Int} {v : Tm} : ∃ e, (itn ts fl a v).1 = ts ++ e := by
  unfold itn
  split
  · exact ⟨[], by simp⟩
  · split
    · exact ⟨[v], rfl⟩
    · exact ⟨[], by simp⟩
theorem itT_pre {ts : List Tm} {fl fr : Int} {m : Stm} : ∃ e, (itT ts fl fr m).1 = ts ++ e := by
  unfold itT
  split
  · exact itn_pre
  · rename_i y _
    obtain ⟨e1, h1⟩ := itn_pre (ts := ts) (fl := fl) (a := 0) (v := (0, y, [], -1))
    obtain ⟨e2, h2⟩ := itn_pre (ts := (itn ts fl 0 (0, y, [], -1)).1) (fl := (itn ts fl 0 (0, y, [], -1)).2.1) (a := 0) (v := (m.1, m.2.1, m.2.2.1, (itn ts fl 0 (0, y, [], -1)).2.2))
    exact ⟨e1 ++ e2, by rw [h2, h1, List.append_assoc]⟩
theorem mT_pre {ts2 ts : List Tm} {ov2 z ov fr : Int} {m : Stm} (h : mT ts2 ov2 z ts ov fr m) : ∃ e, ts2 = ts ++ e := by
  rcases h with a | a | a
  · exact ⟨[], by rw [a.2.2.2, List.append_nil]⟩
  · obtain ⟨e, h⟩ := itT_pre (ts := ts) (fl := 0) (fr := fr) (m := m)
    rw [← a.2.2] at h
    exact ⟨e, h⟩
  · exact a.2.2.2
theorem TyO_pre {T : List Int} {n p p2 f2 ov z ov2 : Int} {ts2 ts : List Tm} (h : TyO T n p p2 f2 ov z ov2 ts2 ts) : ∃ e, ts2 = ts ++ e := by
  rcases h.2 with a | ⟨-, -, y, -, a⟩
  · exact ⟨[], by rw [a.2.2.2.2.1, List.append_nil]⟩
  · exact mT_pre a
theorem RsM_pre {n f p2 f2 ov z ov2 fr : Int} {r : Except Int (Int × Stm)} {ts2 ts : List Tm} (h : RsM n f p2 f2 ov r z ov2 ts2 ts fr) : ∃ e, ts2 = ts ++ e := by
  rcases h.2 with a | a | ⟨-, q, m, -, -, -, a⟩
  · exact ⟨[], by rw [a.2.2.2.2, List.append_nil]⟩
  · exact ⟨[], by rw [a.2.2.2.2, List.append_nil]⟩
  · exact mT_pre a
theorem pre_sz {g g' : Int → Tm} {n m : Int} (h0 : 0 ≤ n) (hm : 0 ≤ m) (h : ∃ e, lst g' m = lst g n ++ e) : n ≤ m := by
  obtain ⟨e, h1⟩ := h
  have h2 := congrArg List.length h1
  rw [List.length_append, lst_length, lst_length] at h2
  omega
theorem RsM_rg {n f p2 f2 ov z ov2 fr : Int} {r : Except Int (Int × Stm)} {ts2 ts : List Tm} (hf : f = -1 ∨ (0 ≤ f ∧ f ≤ n)) (hov : ov = 0 ∨ ov = 1) (h : RsM n f p2 f2 ov r z ov2 ts2 ts fr) : (0 ≤ p2 ∧ p2 ≤ n) ∧ (f2 = -1 ∨ (0 ≤ f2 ∧ f2 ≤ n)) ∧ (ov2 = 0 ∨ ov2 = 1) := by
  refine ⟨h.1, ?_⟩
  rcases h.2 with a | ⟨a, ⟨k, b⟩, c⟩ | ⟨a, q, m, b, c, d, e⟩
  · omega
  · omega
  · rcases e with e | e | e <;> omega
theorem TgO_f {T : List Int} {N p0 p f tz : Int} {TA : Nat → Int32} (h : TgO T N p0 p f tz TA) : f = -1 ∨ (0 ≤ f ∧ f ≤ N) := by
  rcases h.2.2 with a | a
  · exact Or.inr ⟨a.1, a.2.1⟩
  · exact Or.inl a.1
