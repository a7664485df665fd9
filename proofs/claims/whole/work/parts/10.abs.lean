/-! the terms and the quads as lists -/
abbrev Tm : Type := Int × List Int × List Int × Int
abbrev Qd : Type := Int × Int × Int × Int
def seg (f : Nat → Int32) (a n : Int) : List Int := lst (fun i => tI f (a + i)) n
def tmAt (K Ln C TL TG TY : Nat → Int32) (t : Int) : Tm := (tI K t, seg C (t * 40) (tI Ln t), seg TG (t * 16) (tI TL t), tI TY t)
def qdAt (P : Nat → Int32) (i : Int) : Qd := (tI P (i * 4), tI P (i * 4 + 1), tI P (i * 4 + 2), tI P (i * 4 + 3))
/-- what the terms' rows keep -/
def tOk (Ln TL : Nat → Int32) (sz : Int) : Prop := 0 ≤ sz ∧ sz ≤ 120 ∧ ∀ t, 0 ≤ t → t < sz → 0 ≤ tI Ln t ∧ tI Ln t ≤ 40 ∧ 0 ≤ tI TL t ∧ tI TL t ≤ 16
theorem seg_ext {f f' : Nat → Int32} {a n : Int} (h : ∀ i, 0 ≤ i → i < n → tI f (a + i) = tI f' (a + i)) : seg f a n = seg f' a n := lst_ext h
theorem idx_hit {α : Type} [DecidableEq α] {g : Int → α} {n i : Int} {v : α} (h0 : 0 ≤ i) (h1 : i < n) (h : g i = v) : idxF ((lst g n).drop i.toNat) i v = i := by
  rw [lst_drop g h0 h1]
  unfold idxF
  rw [if_pos h]
theorem idx_miss {α : Type} [DecidableEq α] {g : Int → α} {n i : Int} {v : α} (h0 : 0 ≤ i) (h1 : i < n) (h : g i ≠ v) : idxF ((lst g n).drop i.toNat) i v = idxF ((lst g n).drop (i + 1).toNat) (i + 1) v := by
  rw [lst_drop g h0 h1]
  conv => lhs; unfold idxF
  rw [if_neg h]
theorem idx_end {α : Type} [DecidableEq α] {g : Int → α} {n i : Int} {v : α} (h : n ≤ i) : idxF ((lst g n).drop i.toNat) i v = -1 := by
  rw [lst_dropN g h]
  rfl
/-- what numberOf does, in lists -/
def nOut (ts2 : List Tm) (fl2 z : Int) (ts : List Tm) (fl a : Int) (v : Tm) : Prop :=
  (idxF (ts.drop a.toNat) a v ≠ -1 ∧ z = idxF (ts.drop a.toNat) a v ∧ ts2 = ts ∧ fl2 = fl) ∨ (idxF (ts.drop a.toNat) a v = -1 ∧ 120 ≤ ts.length ∧ z = -1 ∧ ts2 = ts ∧ fl2 = 1) ∨ (idxF (ts.drop a.toNat) a v = -1 ∧ ts.length < 120 ∧ z = ts.length ∧ ts2 = ts ++ [v] ∧ fl2 = fl)
/-- what addNew does -/
def qOut (qs2 : List Qd) (fl2 : Int) (qs : List Qd) (fl : Int) (v : Qd) : Prop :=
  (idxF qs 0 v ≠ -1 ∧ qs2 = qs ∧ fl2 = fl) ∨ (idxF qs 0 v = -1 ∧ 80 ≤ qs.length ∧ qs2 = qs ∧ fl2 = 1) ∨ (idxF qs 0 v = -1 ∧ qs.length < 80 ∧ qs2 = qs ++ [v] ∧ fl2 = fl)
theorem lst_erase {α : Type} {g g' : Int → α} {n i : Int} (h0 : 0 ≤ i) (h1 : i < n) (ha : ∀ a, 0 ≤ a → a < i → g' a = g a) (hb : ∀ a, i ≤ a → a < n - 1 → g' a = g (a + 1)) : lst g' (n - 1) = (lst g n).eraseIdx i.toNat := by
  apply List.ext_getElem?
  intro k
  rw [List.getElem?_eraseIdx]
  by_cases hk : (k : Int) < n - 1
  · have e1 := lst_get (g := g') (n := n - 1) (i := (k : Int)) (by omega) hk
    rw [Int.toNat_natCast] at e1
    rw [e1]
    split
    · rename_i h
      have e2 := lst_get (g := g) (n := n) (i := (k : Int)) (by omega) (by omega)
      rw [Int.toNat_natCast] at e2
      rw [e2, ha k (by omega) (by omega)]
    · rename_i h
      have e2 := lst_get (g := g) (n := n) (i := (k : Int) + 1) (by omega) (by omega)
      rw [show ((k : Int) + 1).toNat = k + 1 by omega] at e2
      rw [e2, hb k (by omega) hk]
  · rw [List.getElem?_eq_none (by rw [lst_length]; omega)]
    split
    · rename_i h
      exact absurd h (by omega)
    · rw [List.getElem?_eq_none (by rw [lst_length]; omega)]
theorem tmAt_push {K Ln C TL TG TY C' TG' : Nat → Int32} {sz k ty nx ng : Int} {X G : List Int} (hs : tOk Ln TL sz) (h1 : sz < 120) (hk : -2147483648 ≤ k ∧ k < 2147483648) (hy : -2147483648 ≤ ty ∧ ty < 2147483648) (hx : 0 ≤ nx ∧ nx ≤ 40) (hg : 0 ≤ ng ∧ ng ≤ 16)
    (hC : ∀ j, 0 ≤ j → j < sz * 40 → tI C' j = tI C j) (hG : ∀ j, 0 ≤ j → j < sz * 16 → tI TG' j = tI TG j) (eC : seg C' (sz * 40) nx = X) (eG : seg TG' (sz * 16) ng = G) :
    tOk (fu Ln sz nx) (fu TL sz ng) (sz + 1) ∧ lst (tmAt (fu K sz k) (fu Ln sz nx) C' (fu TL sz ng) TG' (fu TY sz ty)) (sz + 1) = lst (tmAt K Ln C TL TG TY) sz ++ [(k, X, G, ty)] := by
  obtain ⟨s0, s1, s2⟩ := hs
  refine ⟨⟨by omega, by omega, fun t t0 t1 => ?_⟩, ?_⟩
  · by_cases h : t = sz
    · subst h
      rw [fu_eq (by omega), fu_eq (by omega)]
      omega
    · rw [fu_ne s0 t0 h, fu_ne s0 t0 h]
      exact s2 t t0 (by omega)
  · rw [lst_succ _ s0]
    congr 1
    · apply lst_ext
      intro t t0 t1
      have hb := s2 t t0 t1
      unfold tmAt
      rw [fu_ne s0 t0 (by omega), fu_ne s0 t0 (by omega), fu_ne s0 t0 (by omega), fu_ne s0 t0 (by omega)]
      rw [seg_ext (f := C') (f' := C) (fun i i0 i1 => hC _ (by omega) (by omega)), seg_ext (f := TG') (f' := TG) (fun i i0 i1 => hG _ (by omega) (by omega))]
    · unfold tmAt
      rw [fu_eq hk, fu_eq (by omega), fu_eq (by omega), fu_eq hy, eC, eG]
theorem qd_push {P : Nat → Int32} {sz a b c d : Int} (h0 : 0 ≤ sz) (ha : -2147483648 ≤ a ∧ a < 2147483648) (hb : -2147483648 ≤ b ∧ b < 2147483648) (hc : -2147483648 ≤ c ∧ c < 2147483648) (hd : -2147483648 ≤ d ∧ d < 2147483648) :
    lst (qdAt (fu (fu (fu (fu P (sz * 4) a) (sz * 4 + 1) b) (sz * 4 + 2) c) (sz * 4 + 3) d)) (sz + 1) = lst (qdAt P) sz ++ [(a, b, c, d)] := by
  rw [lst_succ _ h0]
  congr 1
  · apply lst_ext
    intro t t0 t1
    unfold qdAt
    simp only [fu_ne (z := sz * 4 + 3) (by omega) (show 0 ≤ t * 4 by omega) (by omega), fu_ne (z := sz * 4 + 3) (by omega) (show 0 ≤ t * 4 + 1 by omega) (by omega), fu_ne (z := sz * 4 + 3) (by omega) (show 0 ≤ t * 4 + 2 by omega) (by omega), fu_ne (z := sz * 4 + 3) (by omega) (show 0 ≤ t * 4 + 3 by omega) (by omega), fu_ne (z := sz * 4 + 2) (by omega) (show 0 ≤ t * 4 by omega) (by omega), fu_ne (z := sz * 4 + 2) (by omega) (show 0 ≤ t * 4 + 1 by omega) (by omega), fu_ne (z := sz * 4 + 2) (by omega) (show 0 ≤ t * 4 + 2 by omega) (by omega), fu_ne (z := sz * 4 + 2) (by omega) (show 0 ≤ t * 4 + 3 by omega) (by omega), fu_ne (z := sz * 4 + 1) (by omega) (show 0 ≤ t * 4 by omega) (by omega), fu_ne (z := sz * 4 + 1) (by omega) (show 0 ≤ t * 4 + 1 by omega) (by omega), fu_ne (z := sz * 4 + 1) (by omega) (show 0 ≤ t * 4 + 2 by omega) (by omega), fu_ne (z := sz * 4 + 1) (by omega) (show 0 ≤ t * 4 + 3 by omega) (by omega), fu_ne (z := sz * 4) (by omega) (show 0 ≤ t * 4 by omega) (by omega), fu_ne (z := sz * 4) (by omega) (show 0 ≤ t * 4 + 1 by omega) (by omega), fu_ne (z := sz * 4) (by omega) (show 0 ≤ t * 4 + 2 by omega) (by omega), fu_ne (z := sz * 4) (by omega) (show 0 ≤ t * 4 + 3 by omega) (by omega)]
  · have e0 : tI (fu (fu (fu (fu P (sz * 4) a) (sz * 4 + 1) b) (sz * 4 + 2) c) (sz * 4 + 3) d) (sz * 4) = a := by rw [fu_ne (by omega) (by omega) (by omega), fu_ne (by omega) (by omega) (by omega), fu_ne (by omega) (by omega) (by omega), fu_eq ha]
    have e1 : tI (fu (fu (fu (fu P (sz * 4) a) (sz * 4 + 1) b) (sz * 4 + 2) c) (sz * 4 + 3) d) (sz * 4 + 1) = b := by rw [fu_ne (by omega) (by omega) (by omega), fu_ne (by omega) (by omega) (by omega), fu_eq hb]
    have e2 : tI (fu (fu (fu (fu P (sz * 4) a) (sz * 4 + 1) b) (sz * 4 + 2) c) (sz * 4 + 3) d) (sz * 4 + 2) = c := by rw [fu_ne (by omega) (by omega) (by omega), fu_eq hc]
    have e3 : tI (fu (fu (fu (fu P (sz * 4) a) (sz * 4 + 1) b) (sz * 4 + 2) c) (sz * 4 + 3) d) (sz * 4 + 3) = d := by rw [fu_eq hd]
    unfold qdAt
    rw [e0, e1, e2, e3]
