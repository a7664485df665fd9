/-! labels, terms; the terms' numbers -/
def lbE (T : List Int) (q e : Int) : Except Int (Int × List Int) := if e = q then .error q else if 12 < e - q then .error (q + 12) else .ok (e, lst (fun i => rd T (q + i)) (e - q))
def nmS (T : List Int) (q : Int) : Int := if rd T q = 45 ∨ rd T q = 46 then q else nmE T q q
def lb (T : List Int) (p : Int) : Except Int (Int × List Int) := if rd T (p + 1) = 58 then lbE T (p + 2) (nmS T (p + 2)) else .error (p + 1)
abbrev Stm : Type := Int × List Int × List Int × Option (List Int)
def itn (ts : List Tm) (fl a : Int) (v : Tm) : List Tm × Int × Int := if idxF (ts.drop a.toNat) a v ≠ -1 then (ts, fl, idxF (ts.drop a.toNat) a v) else if ts.length < 120 then (ts ++ [v], fl, (ts.length : Int)) else (ts, 1, -1)
def itT (ts : List Tm) (fl fr : Int) (m : Stm) : List Tm × Int × Int := match m.2.2.2 with
  | none => itn ts fl (if m.1 = 1 then fr else 0) (m.1, m.2.1, m.2.2.1, -1)
  | some y => itn (itn ts fl 0 (0, y, [], -1)).1 (itn ts fl 0 (0, y, [], -1)).2.1 0 (m.1, m.2.1, m.2.2.1, (itn ts fl 0 (0, y, [], -1)).2.2)
def gro (ts2 ts : List Tm) (fl2 fl : Int) : Prop := (∃ e, ts2 = ts ++ e) ∧ (fl2 = fl ∨ fl2 = 1)
theorem gro_rf {ts : List Tm} {fl : Int} : gro ts ts fl fl := ⟨⟨[], by simp⟩, Or.inl rfl⟩
theorem gro_tr {a b c : List Tm} {x y z : Int} (h1 : gro b a y x) (h2 : gro c b z y) : gro c a z x := by
  obtain ⟨⟨e1, h1⟩, h3⟩ := h1
  obtain ⟨⟨e2, h2⟩, h4⟩ := h2
  refine ⟨⟨e1 ++ e2, by rw [h2, h1, List.append_assoc]⟩, by omega⟩
theorem nOut_itn {ts2 ts : List Tm} {fl2 fl z a : Int} {v : Tm} (h : nOut ts2 fl2 z ts fl a v) : (ts2, fl2, z) = itn ts fl a v ∧ gro ts2 ts fl2 fl := by
  unfold itn
  rcases h with ⟨h1, rfl, rfl, rfl⟩ | ⟨h1, h2, rfl, rfl, rfl⟩ | ⟨h1, h2, rfl, rfl, rfl⟩
  · rw [if_pos h1]
    exact ⟨rfl, gro_rf⟩
  · rw [if_neg (fun q => q h1), if_neg (by omega)]
    exact ⟨rfl, ⟨[], by simp⟩, Or.inr rfl⟩
  · rw [if_neg (fun q => q h1), if_pos h2]
    exact ⟨rfl, ⟨[v], rfl⟩, Or.inl rfl⟩
/-- what a part of a statement is: lk the last kind that may be -/
def litE (T : List Int) (l : List Int) (q : Int) : Except Int (Int × Stm) :=
  if rd T q = 64 then (match rt T (q + 1) with | .error k => .error k | .ok (q2, g) => .ok (q2, (2, l, g, none)))
  else if rd T q = 94 then (if rd T (q + 1) = 94 then (match rc T 0 (q + 2) with | .error k => .error k | .ok (q2, y) => .ok (q2, (2, l, [], some y))) else .error (q + 1))
  else .ok (q, (2, l, [], none))
def lit (T : List Int) (p : Int) : Except Int (Int × Stm) := match rc T 2 p with | .error k => .error k | .ok (q, l) => litE T l q
def rtm (T : List Int) (lk p : Int) : Except Int (Int × Stm) :=
  if rd T p = 60 then (match rc T 0 p with | .error k => .error k | .ok (q, l) => .ok (q, (0, l, [], none)))
  else if rd T p = 95 ∧ 1 ≤ lk then (match lb T p with | .error k => .error k | .ok (q, l) => .ok (q, (1, l, [], none)))
  else if rd T p = 34 ∧ 2 ≤ lk then lit T p else .error p
theorem lst_end {α : Type} {g g' : Int → α} {n m : Int} (h : n = m) (hg : ∀ i, 0 ≤ i → i < n → g i = g' i) : lst g n = lst g' m := by
  subst h
  exact lst_ext hg
