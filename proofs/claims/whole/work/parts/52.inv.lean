/-! what the terms and the quads keep -/
def sgO (g : List Int) : Prop := ∀ x ∈ g, 33 ≤ x ∧ x ≤ 126
/-- the kind of the term with a number -/
def isK0 (ts : List Tm) (y : Int) : Prop := 0 ≤ y ∧ ∃ w, ts[y.toNat]? = some w ∧ w.1 = 0
def tWf (ts : List Tm) (v : Tm) : Prop := (v.1 = 0 ∨ v.1 = 1 ∨ v.1 = 2) ∧ (v.1 ≠ 2 → v.2.2.1 = [] ∧ v.2.2.2 = -1) ∧ (v.2.2.1 ≠ [] → v.2.2.2 = -1) ∧ (v.2.2.2 = -1 ∨ isK0 ts v.2.2.2) ∧ sgO v.2.2.1
def wfT_ (ts : List Tm) : Prop := ∀ v ∈ ts, tWf ts v
def inR (n y : Int) : Prop := -1 ≤ y ∧ y < n
def qWf (n : Int) (q : Qd) : Prop := inR n q.1 ∧ inR n q.2.1 ∧ inR n q.2.2.1 ∧ inR n q.2.2.2
def wfQ (n : Int) (qs : List Qd) : Prop := ∀ q ∈ qs, qWf n q
theorem isK0_app {ts e : List Tm} {y : Int} (h : isK0 ts y) : isK0 (ts ++ e) y := by
  obtain ⟨h0, w, h1, h2⟩ := h
  have hl : y.toNat < ts.length := (List.getElem?_eq_some_iff.mp h1).1
  exact ⟨h0, w, by rw [List.getElem?_append_left hl]; exact h1, h2⟩
theorem tWf_app {ts e : List Tm} {v : Tm} (h : tWf ts v) : tWf (ts ++ e) v := ⟨h.1, h.2.1, h.2.2.1, h.2.2.2.1.imp id isK0_app, h.2.2.2.2⟩
theorem qWf_le {n m : Int} {q : Qd} (hnm : n ≤ m) (h : qWf n q) : qWf m q := by
  unfold qWf inR at *
  omega
theorem qWf_mk {n a b c d : Int} (ha : inR n a) (hb : inR n b) (hc : inR n c) (hd : inR n d) : qWf n (a, b, c, d) := ⟨ha, hb, hc, hd⟩
theorem inR_m {n y : Int} {b : Prop} (h : (y = -1 ∧ b) ∨ (0 ≤ y ∧ y < n)) {m : Int} (hb : ¬ b) (hm : n ≤ m) : inR m y := by
  rcases h with h | h
  · exact absurd h.2 hb
  · exact ⟨by omega, by omega⟩
theorem wfQ_le {n m : Int} {qs : List Qd} (hnm : n ≤ m) (h : wfQ n qs) : wfQ m qs := fun q hq => qWf_le hnm (h q hq)
theorem idxF_get {α : Type} [DecidableEq α] {v : α} : ∀ (l : List α) (i : Int), 0 ≤ i → idxF l i v ≠ -1 → i ≤ idxF l i v ∧ l[(idxF l i v - i).toNat]? = some v := by
  intro l
  induction l with
  | nil => intro i _ h; exact absurd rfl h
  | cons a l ih =>
    intro i hi h
    by_cases e : a = v
    · have e2 : idxF (a :: l) i v = i := by unfold idxF; rw [if_pos e]
      rw [e2]
      exact ⟨Int.le_refl _, by rw [Int.sub_self]; simp [e]⟩
    · have e2 : idxF (a :: l) i v = idxF l (i + 1) v := by
        show (if a = v then i else idxF l (i + 1) v) = _
        rw [if_neg e]
      rw [e2] at h ⊢
      obtain ⟨h1, h2⟩ := ih (i + 1) (by omega) h
      refine ⟨by omega, ?_⟩
      rw [show (idxF l (i + 1) v - i).toNat = (idxF l (i + 1) v - (i + 1)).toNat + 1 by omega]
      simpa using h2
/-- where a note's number leads -/
theorem itn_at {ts : List Tm} {fl a : Int} {v : Tm} (ha : 0 ≤ a) : (itn ts fl a v).2.2 = -1 ∧ (itn ts fl a v).2.1 = 1 ∨ (0 ≤ (itn ts fl a v).2.2 ∧ (itn ts fl a v).1[(itn ts fl a v).2.2.toNat]? = some v ∧ (itn ts fl a v).2.1 = fl) := by
  unfold itn
  by_cases h : idxF (ts.drop a.toNat) a v ≠ -1
  · rw [if_pos h]
    refine Or.inr ?_
    obtain ⟨h1, h2⟩ := idxF_get (ts.drop a.toNat) a ha h
    refine ⟨by show 0 ≤ idxF (ts.drop a.toNat) a v; omega, ?_, rfl⟩
    show ts[(idxF (ts.drop a.toNat) a v).toNat]? = some v
    rw [List.getElem?_drop] at h2
    rw [show (idxF (ts.drop a.toNat) a v).toNat = a.toNat + (idxF (ts.drop a.toNat) a v - a).toNat by omega]
    exact h2
  · rw [if_neg h]
    by_cases h3 : ts.length < 120
    · rw [if_pos h3]
      refine Or.inr ⟨by show (0 : Int) ≤ (ts.length : Int); omega, ?_, rfl⟩
      show (ts ++ [v])[((ts.length : Int)).toNat]? = some v
      simp
    · rw [if_neg h3]
      exact Or.inl ⟨rfl, rfl⟩
theorem itn_wf {ts : List Tm} {fl a : Int} {v : Tm} (h : wfT_ ts) (hv : tWf ts v) : wfT_ (itn ts fl a v).1 := by
  unfold itn
  split
  · exact h
  · split
    · intro w hw
      rcases List.mem_append.mp hw with hw | hw
      · exact tWf_app (h w hw)
      · rw [List.mem_singleton.mp hw]
        exact tWf_app hv
    · exact h
theorem sgO_nil : sgO [] := fun x hx => by simp at hx
theorem tWf_0 {ts : List Tm} {l : List Int} : tWf ts (0, l, [], -1) := ⟨Or.inl rfl, fun _ => ⟨rfl, rfl⟩, fun h => absurd rfl h, Or.inl rfl, sgO_nil⟩
theorem tWf_1 {ts : List Tm} {l : List Int} : tWf ts (1, l, [], -1) := ⟨Or.inr (Or.inl rfl), fun _ => ⟨rfl, rfl⟩, fun h => absurd rfl h, Or.inl rfl, sgO_nil⟩
theorem tWf_2g {ts : List Tm} {l g : List Int} (h : sgO g) : tWf ts (2, l, g, -1) := ⟨Or.inr (Or.inr rfl), fun h => absurd rfl h, fun _ => rfl, Or.inl rfl, h⟩
theorem tWf_2y {ts : List Tm} {l : List Int} {y : Int} (h : y = -1 ∨ isK0 ts y) : tWf ts (2, l, [], y) := ⟨Or.inr (Or.inr rfl), fun h => absurd rfl h, fun h => absurd rfl h, h, sgO_nil⟩
/-- what a part read is -/
def sWf (m : Stm) : Prop := (m.1 = 0 ∧ m.2.2.1 = [] ∧ m.2.2.2 = none) ∨ (m.1 = 1 ∧ m.2.2.1 = [] ∧ m.2.2.2 = none) ∨ (m.1 = 2 ∧ sgO m.2.2.1 ∧ (m.2.2.2 = none ∨ m.2.2.1 = []))
theorem itT_wf {ts : List Tm} {fl fr : Int} {m : Stm} (hfr : 0 ≤ fr) (h : wfT_ ts) (hm : sWf m) : wfT_ (itT ts fl fr m).1 ∧ (((itT ts fl fr m).2.2 = -1 ∧ (itT ts fl fr m).2.1 = 1) ∨ (0 ≤ (itT ts fl fr m).2.2 ∧ (itT ts fl fr m).2.2 < ((itT ts fl fr m).1.length : Int))) := by
  have key : ∀ (ts : List Tm) (fl a : Int) (v : Tm), 0 ≤ a → wfT_ ts → tWf ts v → wfT_ (itn ts fl a v).1 ∧ (((itn ts fl a v).2.2 = -1 ∧ (itn ts fl a v).2.1 = 1) ∨ (0 ≤ (itn ts fl a v).2.2 ∧ (itn ts fl a v).2.2 < ((itn ts fl a v).1.length : Int))) := by
    intro ts fl a v ha h hv
    refine ⟨itn_wf h hv, ?_⟩
    rcases itn_at (ts := ts) (fl := fl) (v := v) ha with q | q
    · exact Or.inl q
    · have := (List.getElem?_eq_some_iff.mp q.2.1).1
      exact Or.inr ⟨q.1, by omega⟩
  obtain ⟨k, l, g, o⟩ := m
  rcases hm with ⟨h1, h2, h3⟩ | ⟨h1, h2, h3⟩ | ⟨h1, h2, h3⟩
  · have h1 : k = 0 := h1
    have h2 : g = [] := h2
    have h3 : o = none := h3
    subst h1; subst h2; subst h3
    exact key ts fl 0 (0, l, [], -1) (Int.le_refl 0) h tWf_0
  · have h1 : k = 1 := h1
    have h2 : g = [] := h2
    have h3 : o = none := h3
    subst h1; subst h2; subst h3
    exact key ts fl fr (1, l, [], -1) hfr h tWf_1
  · have h1 : k = 2 := h1
    subst h1
    cases o with
    | none => exact key ts fl 0 (2, l, g, -1) (Int.le_refl 0) h (tWf_2g h2)
    | some y =>
      have h4 : g = [] := h3.resolve_left (fun q => by cases q)
      subst h4
      have a := key ts fl 0 (0, y, [], -1) (Int.le_refl 0) h tWf_0
      refine key _ _ 0 (2, l, [], (itn ts fl 0 (0, y, [], -1)).2.2) (Int.le_refl 0) a.1 (tWf_2y ?_)
      rcases itn_at (ts := ts) (fl := fl) (v := (0, y, [], -1)) (Int.le_refl 0) with q | q
      · exact Or.inl q.1
      · exact Or.inr ⟨q.1, _, q.2.1, rfl⟩
theorem itT_len {ts : List Tm} {fl fr : Int} {m : Stm} : ts.length ≤ (itT ts fl fr m).1.length := by
  obtain ⟨e, h⟩ := itT_pre (ts := ts) (fl := fl) (fr := fr) (m := m)
  rw [h, List.length_append]
  omega
theorem itT_fl {ts : List Tm} {fl fr : Int} {m : Stm} (h : (itT ts fl fr m).2.1 = 0) (hf : fl = 0 ∨ fl = 1) : fl = 0 := by
  rcases hf with hf | hf
  · exact hf
  · rw [itT_m hf] at h
    exact absurd h (by decide)
theorem itn_f01 {ts : List Tm} {fl a : Int} {v : Tm} (hf : fl = 0 ∨ fl = 1) : (itn ts fl a v).2.1 = 0 ∨ (itn ts fl a v).2.1 = 1 := by
  unfold itn
  split
  · exact hf
  · split
    · exact hf
    · exact Or.inr rfl
theorem itT_f01 {ts : List Tm} {fl fr : Int} {m : Stm} (hf : fl = 0 ∨ fl = 1) : (itT ts fl fr m).2.1 = 0 ∨ (itT ts fl fr m).2.1 = 1 := by
  unfold itT
  split
  · exact itn_f01 hf
  · exact itn_f01 (itn_f01 hf)
/-- the pure state keeps all -/
def wfJ (J : Jst) : Prop := wfT_ J.1 ∧ (J.2.1 = 0 ∨ J.2.1 = 1) ∧ wfQ (J.1.length : Int) J.2.2.1
theorem adq_wf {n : Int} {qs : List Qd} {qf : Int} {v : Qd} (h : wfQ n qs) (hv : qWf n v) : wfQ n (adq qs qf v).1 := by
  unfold adq
  split
  · exact h
  · split
    · intro q hq
      rcases List.mem_append.mp hq with hq | hq
      · exact h q hq
      · rw [List.mem_singleton.mp hq]; exact hv
    · exact h
theorem fin_wf {ts : List Tm} {fl qf : Int} {qs : List Qd} {v : Qd} (ht : wfT_ ts) (hf : fl = 0 ∨ fl = 1) (hq : wfQ (ts.length : Int) qs) (hv : fl = 0 → qWf (ts.length : Int) v) : wfJ (fin ts fl qs qf v) := by
  unfold fin
  split
  · rename_i h
    exact ⟨ht, hf, adq_wf hq (hv h)⟩
  · exact ⟨ht, hf, hq⟩
theorem itS_wf {ts : List Tm} {fl fr qf : Int} {qs : List Qd} {s v o : Stm} {g : Option Stm} (hfr : 0 ≤ fr) (ht : wfT_ ts) (hf : fl = 0 ∨ fl = 1) (hq : wfQ (ts.length : Int) qs) (hs : sWf s) (hv : sWf v) (ho : sWf o) (hg : ∀ w, g = some w → sWf w) : wfJ (itS ts fl fr qs qf s v o g) := by
  have a := itT_wf (fl := fl) hfr ht hs
  have af := itT_f01 (ts := ts) (fr := fr) (m := s) hf
  have al := itT_len (ts := ts) (fl := fl) (fr := fr) (m := s)
  have b := itT_wf (fl := (itT ts fl fr s).2.1) hfr a.1 hv
  have bf := itT_f01 (ts := (itT ts fl fr s).1) (fr := fr) (m := v) af
  have bl_ := itT_len (ts := (itT ts fl fr s).1) (fl := (itT ts fl fr s).2.1) (fr := fr) (m := v)
  have c := itT_wf (fl := (itT (itT ts fl fr s).1 (itT ts fl fr s).2.1 fr v).2.1) hfr b.1 ho
  have cf := itT_f01 (ts := (itT (itT ts fl fr s).1 (itT ts fl fr s).2.1 fr v).1) (fr := fr) (m := o) bf
  have cl := itT_len (ts := (itT (itT ts fl fr s).1 (itT ts fl fr s).2.1 fr v).1) (fl := (itT (itT ts fl fr s).1 (itT ts fl fr s).2.1 fr v).2.1) (fr := fr) (m := o)
  cases g with
  | none =>
    refine fin_wf c.1 cf (wfQ_le (by omega) hq) (fun h0 => ?_)
    have hb0 := itT_fl h0 bf
    have ha0 := itT_fl hb0 af
    exact qWf_mk (inR_m a.2 (by omega) (by omega)) (inR_m b.2 (by omega) (by omega)) (inR_m c.2 (by omega) (by omega)) ⟨by omega, by omega⟩
  | some w =>
    have d := itT_wf (fl := (itT (itT (itT ts fl fr s).1 (itT ts fl fr s).2.1 fr v).1 (itT (itT ts fl fr s).1 (itT ts fl fr s).2.1 fr v).2.1 fr o).2.1) hfr c.1 (hg w rfl)
    have df := itT_f01 (ts := (itT (itT (itT ts fl fr s).1 (itT ts fl fr s).2.1 fr v).1 (itT (itT ts fl fr s).1 (itT ts fl fr s).2.1 fr v).2.1 fr o).1) (fr := fr) (m := w) cf
    have dl := itT_len (ts := (itT (itT (itT ts fl fr s).1 (itT ts fl fr s).2.1 fr v).1 (itT (itT ts fl fr s).1 (itT ts fl fr s).2.1 fr v).2.1 fr o).1) (fl := (itT (itT (itT ts fl fr s).1 (itT ts fl fr s).2.1 fr v).1 (itT (itT ts fl fr s).1 (itT ts fl fr s).2.1 fr v).2.1 fr o).2.1) (fr := fr) (m := w)
    refine fin_wf d.1 df (wfQ_le (by omega) hq) (fun h0 => ?_)
    have hc0 := itT_fl h0 cf
    have hb0 := itT_fl hc0 bf
    have ha0 := itT_fl hb0 af
    exact qWf_mk (inR_m a.2 (by omega) (by omega)) (inR_m b.2 (by omega) (by omega)) (inR_m c.2 (by omega) (by omega)) (inR_m d.2 (by omega) (Int.le_refl _))
/-! what is read is well formed -/
theorem lowL_sg {c fp ip : Int} (h : ¬ (dsI c ip = 0 ∧ sgI c fp = 0)) : 33 ≤ lowL c ∧ lowL c ≤ 126 := by
  by_cases h1 : isL c ∨ (isG c ∧ fp = 0)
  · unfold lowL
    split <;> omega
  · by_cases h2 : c = 45 ∧ 0 < ip
    · unfold lowL
      split <;> omega
    · exfalso
      apply h
      constructor
      · unfold dsI; rw [if_neg h2]
      · unfold sgI; rw [if_neg h1]
theorem tg_sg {T : List Int} : ∀ (k : Nat) (p fp ip : Int) (a : List Int) (q ip2 : Int) (l : List Int), sgO a → tg T k p fp ip a = .ok (q, ip2, l) → sgO l := by
  intro k
  induction k with
  | zero =>
    intro p fp ip a q ip2 l ha h
    unfold tg at h
    injection h with h
    injection h with h1 h2
    injection h2 with h3 h4
    rw [← h4]; exact ha
  | succ k ih =>
    intro p fp ip a q ip2 l ha h
    by_cases h1 : dsI (rd T p) ip = 0 ∧ sgI (rd T p) fp = 0
    · rw [tg_stop h1] at h
      injection h with h
      injection h with h1 h2
      injection h2 with h3 h4
      rw [← h4]; exact ha
    · by_cases h2 : (a.length : Int) = 16 ∨ (sgI (rd T p) fp = 1 ∧ ip = 8)
      · rw [tg_bad h1 h2] at h
        injection h
      · rw [tg_step h1 h2] at h
        refine ih _ _ _ _ _ _ _ ?_ h
        intro x hx
        rcases List.mem_append.mp hx with hx | hx
        · exact ha x hx
        · rw [List.mem_singleton.mp hx]; exact lowL_sg h1
theorem rt_sg {T : List Int} {p q : Int} {l : List Int} (h : rt T p = .ok (q, l)) : sgO l := by
  cases hc : tg T 17 p 1 0 [] with
  | error k => rw [rtE_congr hc] at h; injection h
  | ok d =>
    obtain ⟨x, ip, l2⟩ := d
    have hg := tg_sg 17 p 1 0 [] x ip l2 sgO_nil hc
    rw [rtE_congr hc] at h
    have h : (if ip = 0 then Except.error x else Except.ok (x, l2)) = Except.ok (q, l) := h
    by_cases a1 : ip = 0
    · rw [if_pos a1] at h; injection h
    · rw [if_neg a1] at h
      injection h with h
      injection h with h1 h2
      rw [← h2]; exact hg
theorem lit_wf {T : List Int} {p q : Int} {m : Stm} (h : lit T p = .ok (q, m)) : sWf m := by
  cases hc : rc T 2 p with
  | error k => rw [lit_err hc] at h; injection h
  | ok d =>
    obtain ⟨x, l⟩ := d
    rw [lit_ok hc rfl] at h
    unfold litE at h
    by_cases h1 : rd T x = 64
    · rw [if_pos h1] at h
      cases ht : rt T (x + 1) with
      | error k => rw [ht] at h; injection h
      | ok d =>
        obtain ⟨y, g⟩ := d
        rw [ht] at h
        injection h with h
        injection h with h4 h5
        rw [← h5]
        exact Or.inr (Or.inr ⟨rfl, rt_sg ht, Or.inl rfl⟩)
    · rw [if_neg h1] at h
      by_cases h2 : rd T x = 94
      · rw [if_pos h2] at h
        by_cases h3 : rd T (x + 1) = 94
        · rw [if_pos h3] at h
          cases ht : rc T 0 (x + 2) with
          | error k => rw [ht] at h; injection h
          | ok d =>
            obtain ⟨y, g⟩ := d
            rw [ht] at h
            injection h with h
            injection h with h4 h5
            rw [← h5]
            exact Or.inr (Or.inr ⟨rfl, sgO_nil, Or.inr rfl⟩)
        · rw [if_neg h3] at h; injection h
      · rw [if_neg h2] at h
        injection h with h
        injection h with h4 h5
        rw [← h5]
        exact Or.inr (Or.inr ⟨rfl, sgO_nil, Or.inl rfl⟩)
theorem rtm_wf {T : List Int} {lk p q : Int} {m : Stm} (h : rtm T lk p = .ok (q, m)) : sWf m := by
  unfold rtm at h
  by_cases h1 : rd T p = 60
  · rw [if_pos h1] at h
    cases hc : rc T 0 p with
    | error k => rw [hc] at h; injection h
    | ok d =>
      obtain ⟨x, l⟩ := d
      rw [hc] at h
      injection h with h
      injection h with h4 h5
      rw [← h5]
      exact Or.inl ⟨rfl, rfl, rfl⟩
  · rw [if_neg h1] at h
    by_cases h2 : rd T p = 95 ∧ 1 ≤ lk
    · rw [if_pos h2] at h
      cases hc : lb T p with
      | error k => rw [hc] at h; injection h
      | ok d =>
        obtain ⟨x, l⟩ := d
        rw [hc] at h
        injection h with h
        injection h with h4 h5
        rw [← h5]
        exact Or.inr (Or.inl ⟨rfl, rfl, rfl⟩)
    · rw [if_neg h2] at h
      by_cases h3 : rd T p = 34 ∧ 2 ≤ lk
      · rw [if_pos h3] at h
        exact lit_wf h
      · rw [if_neg h3] at h
        injection h
theorem rst_wf {T : List Int} {p q : Int} {s : Stm × Stm × Stm × Option Stm} (h : rst T p = .ok (q, s)) : sWf s.1 ∧ sWf s.2.1 ∧ sWf s.2.2.1 ∧ ∀ w, s.2.2.2 = some w → sWf w := by
  cases a1 : rtm T 1 p with
  | error k => rw [rst_e1 a1] at h; injection h
  | ok d =>
    obtain ⟨q1, s1⟩ := d
    cases a2 : rtm T 0 (bl T q1) with
    | error k => rw [rst_e2 a1 rfl rfl a2] at h; injection h
    | ok d =>
      obtain ⟨q2, s2⟩ := d
      cases a3 : rtm T 2 (bl T q2) with
      | error k => rw [rst_e3 a1 rfl rfl a2 rfl rfl a3] at h; injection h
      | ok d =>
        obtain ⟨q3, s3⟩ := d
        by_cases e : rd T (bl T q3) = 46
        · rw [rst_o a1 rfl rfl a2 rfl rfl a3 rfl rfl (rst4_dot e)] at h
          injection h with h
          injection h with h4 h5
          rw [← h5]
          exact ⟨rtm_wf a1, rtm_wf a2, rtm_wf a3, fun w hw => by cases hw⟩
        · cases a4 : rtm T 1 (bl T q3) with
          | error k => rw [rst_o a1 rfl rfl a2 rfl rfl a3 rfl rfl (rst4_ge e a4)] at h; injection h
          | ok d =>
            obtain ⟨q4, s4⟩ := d
            by_cases e2 : rd T (bl T q4) = 46
            · rw [rst_o a1 rfl rfl a2 rfl rfl a3 rfl rfl (rst4_gd e a4 rfl rfl e2)] at h
              injection h with h
              injection h with h4 h5
              rw [← h5]
              exact ⟨rtm_wf a1, rtm_wf a2, rtm_wf a3, fun w hw => by injection hw with hw; rw [← hw]; exact rtm_wf a4⟩
            · rw [rst_o a1 rfl rfl a2 rfl rfl a3 rfl rfl (rst4_gn e a4 rfl rfl e2)] at h
              injection h
theorem ln_wf {T : List Int} {fr : Int} (hfr : 0 ≤ fr) : ∀ (k : Nat) (p : Int) (J K : Jst), wfJ J → ln T fr k p J = .ok K → wfJ K := by
  intro k
  induction k with
  | zero =>
    intro p J K hJ h
    unfold ln at h
    injection h with h
    rw [← h]; exact hJ
  | succ k ih =>
    have hE : ∀ (p : Int) (J K : Jst), wfJ J → lnE T (fun q K => ln T fr k q K) p J = .ok K → wfJ K := by
      intro p J K hJ h
      unfold lnE at h
      split at h
      · injection h with h
        rw [← h]; exact hJ
      · split at h
        · exact ih _ _ _ hJ h
        · injection h
    intro p J K hJ h
    by_cases hz : rd T (bl T p) = -1 ∨ rd T (bl T p) = 10 ∨ rd T (bl T p) = 35
    · rw [ln_no rfl hz] at h
      exact hE _ _ _ hJ h
    · have hz2 : rd T (bl T p) ≠ -1 ∧ rd T (bl T p) ≠ 10 ∧ rd T (bl T p) ≠ 35 := by omega
      cases hr : rst T (bl T p) with
      | error x => rw [ln_err rfl hz2 hr] at h; injection h
      | ok d =>
        obtain ⟨q, s⟩ := d
        rw [ln_ok rfl hz2 hr rfl rfl] at h
        have w := rst_wf hr
        exact hE _ _ _ (itS_wf hfr hJ.1 hJ.2.1 hJ.2.2 w.1 w.2.1 w.2.2.1 w.2.2.2) h
