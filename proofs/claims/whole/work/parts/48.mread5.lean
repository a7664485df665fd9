/-! the reference reads all -/
/-- the pure state beside the reference's: equal, or both are over -/
def Jr (J : Jst) (ov : Int) (ts : List Tm) (qs : List Qd) : Prop := (ov = 0 ∧ J = (ts, 0, qs, 0)) ∨ (ov = 1 ∧ (J.2.1 = 1 ∨ J.2.2.2 = 1))
def MI (T : List Int) (n fr mo p f ov : Int) (ts : List Tm) (qs : List Qd) (L : Except Int Jst) : Prop := (f = -1 ∧ mo = 1 ∧ ∃ (J : Jst) (k : Nat), Jr J ov ts qs ∧ n - p < (k : Int) ∧ ln T fr k p J = L) ∨ (f = -1 ∧ mo = 0 ∧ ∃ J : Jst, Jr J ov ts qs ∧ L = .ok J) ∨ (0 ≤ f ∧ f ≤ n ∧ L = .error f)
def MK (T : List Int) (n fr q f ov : Int) (ts : List Tm) (qs : List Qd) (L : Except Int Jst) : Prop := (f = -1 ∧ bl T q = q ∧ ∃ (J : Jst) (k : Nat), Jr J ov ts qs ∧ n - q < (k : Int) + 1 ∧ lnE T (fun q K => ln T fr k q K) q J = L) ∨ (0 ≤ f ∧ f ≤ n ∧ L = .error f)
def ML (T : List Int) (n fr e f ov : Int) (ts : List Tm) (qs : List Qd) (L : Except Int Jst) : Prop := (f = -1 ∧ ∃ (J : Jst) (k : Nat), Jr J ov ts qs ∧ n - e < (k : Int) + 1 ∧ (rd T e = 10 → ln T fr k (e + 1) J = L) ∧ (rd T e = -1 → L = .ok J) ∧ (rd T e ≠ -1 → rd T e ≠ 10 → L = .error e)) ∨ (0 ≤ f ∧ f ≤ n ∧ L = .error f)
theorem itT_m {ts : List Tm} {fl fr : Int} {m : Stm} (h : fl = 1) : (itT ts fl fr m).2.1 = 1 := by
  subst h
  exact itT_1f
theorem adq_m {qs : List Qd} {qf : Int} {v : Qd} (h : qf = 1) : (adq qs qf v).2 = 1 := by
  subst h
  unfold adq
  split
  · rfl
  · split <;> rfl
theorem fin_q {ts : List Tm} {fl qf : Int} {qs : List Qd} {v : Qd} (h : qf = 1) : (fin ts fl qs qf v).2.2.2 = 1 := by
  unfold fin
  split
  · exact adq_m h
  · exact h
theorem itS_m {ts : List Tm} {fl fr qf : Int} {qs : List Qd} {s v o : Stm} {g : Option Stm} (h : fl = 1 ∨ qf = 1) : (itS ts fl fr qs qf s v o g).2.1 = 1 ∨ (itS ts fl fr qs qf s v o g).2.2.2 = 1 := by
  rcases h with h | h
  · refine Or.inl ?_
    have a := itT_m (ts := ts) (fr := fr) (m := s) h
    have b := itT_m (ts := (itT ts fl fr s).1) (fr := fr) (m := v) a
    have c := itT_m (ts := (itT (itT ts fl fr s).1 (itT ts fl fr s).2.1 fr v).1) (fr := fr) (m := o) b
    cases g with
    | none => exact fin_fl.trans c
    | some g => exact fin_fl.trans (itT_m c)
  · refine Or.inr ?_
    cases g with
    | none => exact fin_q h
    | some g => exact fin_q h
theorem MI_live {T : List Int} {n fr mo p f ov : Int} {ts : List Tm} {qs : List Qd} {L : Except Int Jst} (h : MI T n fr mo p f ov ts qs L) (hf : f < 0) (hm : mo ≠ 0) : ∃ (J : Jst) (k : Nat), Jr J ov ts qs ∧ n - p < (k : Int) ∧ ln T fr k p J = L := by
  rcases h with a | a | a
  · exact a.2.2
  · omega
  · omega
theorem MK_no {T : List Int} {n fr mo p q f ov c : Int} {ts : List Tm} {qs : List Qd} {L : Except Int Jst} (h : MI T n fr mo p f ov ts qs L) (hf : f < 0) (hf1 : f = -1 ∨ 0 ≤ f) (hm : mo ≠ 0) (hp : p ≤ n) (hq : q = bl T p) (hpq : p ≤ q) (hB : ¬ isB (rd T q)) (hc : c = rd T q) (hcr : -1 ≤ c) (hz : c = 35 ∨ c = 10 ∨ c < 0) : MK T n fr q f ov ts qs L := by
  obtain ⟨J, k, a1, a2, a3⟩ := MI_live h hf hm
  obtain ⟨k, rfl⟩ : ∃ j, k = j + 1 := ⟨k - 1, by omega⟩
  refine Or.inl ⟨by omega, bl_e hB, J, k, a1, by omega, ?_⟩
  rw [← a3, ln_no hq (by omega)]
theorem lnE_bl {T : List Int} {rec : Int → Jst → Except Int Jst} {p q : Int} {J : Jst} (hq : q = bl T p) (hB : ¬ isB (rd T q)) : lnE T rec q J = lnE T rec p J := by
  have e : en T q = en T p := by
    unfold en
    rw [bl_e hB, hq]
  unfold lnE
  rw [e]
theorem MK_st {T : List Int} {n fr mo p q p2 p3 f f2 ov ov2 c : Int} {ts ts2 : List Tm} {qs qs2 : List Qd} {L : Except Int Jst} (h : MI T n fr mo p f ov ts qs L) (hf : f < 0) (hm : mo ≠ 0) (h0 : 0 ≤ p ∧ p ≤ n) (hq : q = bl T p) (hpq : p ≤ q) (hc : c = rd T q) (hz : c ≠ 35 ∧ c ≠ 10 ∧ 0 ≤ c) (hs : StO T n q p2 f2 ov ov2 ts2 ts qs2 qs fr) (hb : (0 ≤ f2 ∧ p3 = p2) ∨ (f2 < 0 ∧ p3 = bl T p2 ∧ p2 ≤ p3 ∧ p3 ≤ n ∧ ¬ isB (rd T p3))) : MK T n fr p3 f2 ov2 ts2 qs2 L := by
  obtain ⟨J, k, a1, a2, a3⟩ := MI_live h hf hm
  obtain ⟨k, rfl⟩ : ∃ j, k = j + 1 := ⟨k - 1, by omega⟩
  have hz2 : rd T q ≠ -1 ∧ rd T q ≠ 10 ∧ rd T q ≠ 35 := by omega
  rcases hs.2 with b | ⟨b, s, b1, b2⟩
  · exact Or.inr ⟨b.1, b.2.1, by rw [← a3, ln_err hq hz2 b.2.2]⟩
  · rcases hb with d | ⟨d1, d2, d3, d4, d5⟩
    · omega
    · have hg := rst_ge (by omega) b1
      refine Or.inl ⟨b, bl_e d5, itS J.1 J.2.1 fr J.2.2.1 J.2.2.2 s.1 s.2.1 s.2.2.1 s.2.2.2, k, ?_, by omega, ?_⟩
      · rcases a1 with ⟨e1, e2⟩ | ⟨e1, e2⟩
        · rcases b2 with c1 | c1 | c1
          · omega
          · refine Or.inl ⟨c1.2.1, ?_⟩
            rw [e2]
            exact c1.2.2.symm
          · refine Or.inr ⟨c1.2.1, ?_⟩
            rw [e2]
            exact c1.2.2
        · rcases b2 with c1 | c1 | c1
          · exact Or.inr ⟨c1.2.1, itS_m e2⟩
          · omega
          · omega
      · rw [lnE_bl d2 d5, ← a3, ln_ok hq hz2 b1 rfl rfl]
theorem ML_of {T : List Int} {n fr q e f ov : Int} {ts : List Tm} {qs : List Qd} {L : Except Int Jst} (h : MK T n fr q f ov ts qs L) (he : f < 0 → e = en T q) (hqe : q ≤ e) : ML T n fr e f ov ts qs L := by
  rcases h with ⟨a, a1, J, k, a2, a3, a4⟩ | a
  · have he := he (by omega)
    refine Or.inl ⟨a, J, k, a2, by omega, fun h => ?_, fun h => ?_, fun h h2 => ?_⟩
    · rw [← a4, lnE_nl (by rw [← he]; exact h) (by rw [← he])]
    · rw [← a4, lnE_end (by rw [← he]; exact h)]
    · rw [← a4, lnE_bad (by rw [← he]; exact h) (by rw [← he]; exact h2) he]
  · exact Or.inr a
theorem MK_dead {T : List Int} {n fr q e f ov : Int} {ts : List Tm} {qs : List Qd} {L : Except Int Jst} (h : MK T n fr q f ov ts qs L) (hf : 0 ≤ f) : ML T n fr e f ov ts qs L := by
  rcases h with a | a
  · have := a.1; omega
  · exact Or.inr a
theorem en_n {T : List Int} {q c : Int} (hb : bl T q = q) (hc : c = rd T q) (h : c ≠ 35) : q = en T q := by
  unfold en
  rw [hb, if_neg (by rw [← hc]; exact h)]
theorem en_c {T : List Int} {q e c : Int} (hb : bl T q = q) (hc : c = rd T q) (h : c = 35) (he : cm T e = cm T q) (hx : ¬ (rd T e ≠ -1 ∧ rd T e ≠ 10)) : e = en T q := by
  unfold en
  rw [hb, if_pos (by rw [← hc]; exact h), ← he, cm_e hx]
theorem MK_bl {T : List Int} {n fr q f ov : Int} {ts : List Tm} {qs : List Qd} {L : Except Int Jst} (h : MK T n fr q f ov ts qs L) (hf : f < 0) : bl T q = q := by
  rcases h with a | a
  · exact a.2.1
  · omega
section ML
variable {T : List Int} {n fr e f f2 c ov mo : Int} {ts : List Tm} {qs : List Qd} {L : Except Int Jst}
theorem MI_nl (h : ML T n fr e f ov ts qs L) (hf : f < 0) (hc : c = rd T e) (h10 : c = 10) : MI T n fr 1 (e + 1) f ov ts qs L := by
  rcases h with ⟨a, J, k, a1, a2, a3, a4, a5⟩ | a
  · exact Or.inl ⟨a, rfl, J, k, a1, by omega, a3 (hc.symm.trans h10)⟩
  · omega
theorem MI_end {p : Int} (h : ML T n fr e f ov ts qs L) (hf : f < 0) (hc : c = rd T e) (hcr : -1 ≤ c) (hn : c < 0) : MI T n fr 0 p f ov ts qs L := by
  rcases h with ⟨a, J, k, a1, a2, a3, a4, a5⟩ | a
  · exact Or.inr (Or.inl ⟨a, rfl, J, a1, a4 (by omega)⟩)
  · omega
theorem MI_bad {p : Int} (h0 : 0 ≤ e ∧ e ≤ n) (h : ML T n fr e f ov ts qs L) (hf : f < 0) (hc : c = rd T e) (hn : 0 ≤ c) (h10 : c ≠ 10) (h2 : f2 = if f < 0 then e else f) : MI T n fr mo p f2 ov ts qs L := by
  rw [if_pos hf] at h2
  rcases h with ⟨a, J, k, a1, a2, a3, a4, a5⟩ | a
  · refine Or.inr (Or.inr ⟨by omega, by omega, ?_⟩)
    rw [h2]
    exact a5 (by omega) (by omega)
  · omega
theorem MI_dead {p : Int} (h : ML T n fr e f ov ts qs L) (hf : 0 ≤ f) : MI T n fr mo p f ov ts qs L := by
  rcases h with a | a
  · have := a.1; omega
  · exact Or.inr (Or.inr a)
/-- behind the last line -/
def MZ (n f ov : Int) (ts : List Tm) (qs : List Qd) (L : Except Int Jst) : Prop := (f = -1 ∧ ∃ J : Jst, Jr J ov ts qs ∧ L = .ok J) ∨ (0 ≤ f ∧ f ≤ n ∧ L = .error f)
theorem MZ_m {p : Int} (h : MI T n fr mo p f ov ts qs L) (hm : mo = 0) : MZ n f ov ts qs L := by
  rcases h with a | a | a
  · omega
  · exact Or.inl ⟨a.1, a.2.2⟩
  · exact Or.inr a
theorem MZ_f {p : Int} (h : MI T n fr mo p f ov ts qs L) (hf : 0 ≤ f) : MZ n f ov ts qs L := by
  rcases h with a | a | a
  · omega
  · omega
  · exact Or.inr a
end ML
theorem rA_err {n f ov re z li : Int} {T : List Int} {g : Int → Int} {ts ts1 ts2 : List Tm} {qs qs1 qs2 : List Qd} {L : Except Int Jst} (h : MZ n f ov ts1 qs1 L) (hf : 0 ≤ f) (hz : z = -10 - f) (hl : li = cnt g f) (ht : ts2 = ts) (hq : qs2 = qs) : rAns L T g n ts qs re z li ts2 qs2 re := by
  rcases h with a | a
  · have := a.1; omega
  · exact Or.inl ⟨f, a.2.2, a.1, a.2.1, hz, hl, ht, hq, rfl⟩
theorem rA_full {n f ov re z li : Int} {T : List Int} {g : Int → Int} {ts ts1 ts2 : List Tm} {qs qs1 qs2 : List Qd} {L : Except Int Jst} (h : MZ n f ov ts1 qs1 L) (hf : f < 0) (ho : ov ≠ 0) (hz : z = -3) (hl : li = cnt g n + 1) (ht : ts2 = ts) (hq : qs2 = qs) : rAns L T g n ts qs re z li ts2 qs2 re := by
  rcases h with ⟨a, J, b, c⟩ | a
  · refine Or.inr ⟨J, c, hl, Or.inr ⟨?_, hz, ht, hq, rfl⟩⟩
    rcases b with b | b
    · exact absurd b.1 ho
    · rintro ⟨d1, d2⟩
      rcases b.2 with e | e <;> omega
  · omega
theorem rA_ok {n f ov re z li re2 : Int} {T : List Int} {g : Int → Int} {ts ts1 : List Tm} {qs qs1 : List Qd} {L : Except Int Jst} (h : MZ n f ov ts1 qs1 L) (hf : f < 0) (ho : ov = 0) (hz : z = (qs1.length : Int) - qs.length) (hl : li = cnt g n + 1) (hr : re2 = re + 1) : rAns L T g n ts qs re z li ts1 qs1 re2 := by
  rcases h with ⟨a, J, b, c⟩ | a
  · rcases b with b | b
    · refine Or.inr ⟨J, c, hl, Or.inl ?_⟩
      rw [b.2]
      exact ⟨rfl, rfl, hz, rfl, rfl, hr⟩
    · omega
  · omega
theorem tOk_cut {Ln TL : Nat → Int32} {n m : Int} (h : tOk Ln TL m) (h0 : 0 ≤ n) (h1 : n ≤ m) : tOk Ln TL n := ⟨h0, by have := h.2.1; omega, fun t t0 t1 => h.2.2 t t0 (by omega)⟩
theorem pre_cut {α : Type} {g g' : Int → α} {n m : Int} (h0 : 0 ≤ n) (hm : 0 ≤ m) (h : ∃ e, lst g' m = lst g n ++ e) : n ≤ m ∧ lst g' n = lst g n := by
  obtain ⟨e, h1⟩ := h
  have h3 := congrArg List.length h1
  rw [List.length_append, lst_length, lst_length] at h3
  have hn : n ≤ m := by omega
  have h2 := lst_take g' hn
  rw [h1, List.take_left' (by rw [lst_length])] at h2
  exact ⟨hn, h2.symm⟩
theorem rdb {T : List Int} {p c : Int} (hB : byt T) (h : c = rd T p) : -1 ≤ c ∧ c < 256 := by
  rw [h]
  exact rd_byt hB p
theorem StO_ge {T : List Int} {n p p2 f2 ov ov2 fr : Int} {ts2 ts : List Tm} {qs2 qs : List Qd} (h0 : 0 ≤ p) (h : StO T n p p2 f2 ov ov2 ts2 ts qs2 qs fr) (hf : f2 < 0) : p ≤ p2 := by
  rcases h.2 with a | ⟨a, s, b, c⟩
  · omega
  · exact rst_ge h0 b
