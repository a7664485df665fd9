/-! pure rows: a row of numbers as a list -/
def lst {α : Type} (g : Int → α) (n : Int) : List α := (List.range n.toNat).map (fun i : Nat => g (i : Int))
theorem lst_length {α : Type} (g : Int → α) (n : Int) : (lst g n).length = n.toNat := by simp [lst]
theorem lst_neg {α : Type} {g : Int → α} {n : Int} (h : n ≤ 0) : lst g n = [] := by
  unfold lst
  rw [show n.toNat = 0 by omega]
  rfl
theorem lst_get {α : Type} {g : Int → α} {n i : Int} (h0 : 0 ≤ i) (h1 : i < n) : (lst g n)[i.toNat]? = some (g i) := by
  unfold lst
  rw [List.getElem?_map, List.getElem?_range (by omega)]
  simp [Int.toNat_of_nonneg h0]
theorem lst_ext {α : Type} {g g' : Int → α} {n : Int} (h : ∀ i, 0 ≤ i → i < n → g i = g' i) : lst g n = lst g' n := by
  unfold lst
  apply List.map_congr_left
  intro i hi
  have := List.mem_range.mp hi
  exact h i (by omega) (by omega)
theorem lst_eq {α : Type} {g g' : Int → α} {n : Int} (h : lst g n = lst g' n) : ∀ i, 0 ≤ i → i < n → g i = g' i := by
  intro i h0 h1
  have a := lst_get (g := g) h0 h1
  rw [h, lst_get h0 h1] at a
  exact (Option.some.inj a).symm
theorem lst_eqn {α : Type} {g g' : Int → α} {n m : Int} (hn : 0 ≤ n) (hm : 0 ≤ m) (h : lst g n = lst g' m) : n = m := by
  have := congrArg List.length h
  rw [lst_length, lst_length] at this
  omega
theorem lst_succ {α : Type} (g : Int → α) {n : Int} (h : 0 ≤ n) : lst g (n + 1) = lst g n ++ [g n] := by
  unfold lst
  rw [show (n + 1).toNat = n.toNat + 1 by omega, List.range_succ, List.map_append]
  simp [Int.toNat_of_nonneg h]
theorem lst_drop {α : Type} (g : Int → α) {n i : Int} (h0 : 0 ≤ i) (h1 : i < n) : (lst g n).drop i.toNat = g i :: (lst g n).drop (i + 1).toNat := by
  have hl : i.toNat < (lst g n).length := by rw [lst_length]; omega
  rw [List.drop_eq_getElem_cons hl, show (i + 1).toNat = i.toNat + 1 by omega]
  congr 1
  have a := lst_get (g := g) h0 h1
  rw [List.getElem?_eq_getElem hl] at a
  exact Option.some.inj a
theorem lst_dropN {α : Type} (g : Int → α) {n i : Int} (h : n ≤ i) : (lst g n).drop i.toNat = [] := by
  apply List.drop_eq_nil_of_le
  rw [lst_length]
  omega
theorem lst_take {α : Type} (g : Int → α) {n m : Int} (h : m ≤ n) : (lst g n).take m.toNat = lst g m := by
  unfold lst
  rw [← List.map_take, List.take_range, Nat.min_eq_left (by omega)]
/-- the place of the first one that is v, from i on; -1 -/
def idxF {α : Type} [DecidableEq α] : List α → Int → α → Int
  | [], _, _ => -1
  | a :: l, i, v => if a = v then i else idxF l (i + 1) v
theorem idxF_rg {α : Type} [DecidableEq α] (l : List α) (v : α) : ∀ i : Int, 0 ≤ i → idxF l i v = -1 ∨ (i ≤ idxF l i v ∧ idxF l i v < i + l.length) := by
  induction l with
  | nil => intro i _; exact Or.inl rfl
  | cons a l ih =>
    intro i hi
    unfold idxF
    split
    · exact Or.inr ⟨Int.le_refl _, by simp only [List.length_cons]; omega⟩
    · rcases ih (i + 1) (by omega) with h | h
      · exact Or.inl h
      · refine Or.inr ?_
        simp only [List.length_cons]
        omega
/-- a byte of a list, -1 where there is none -/
def rd (l : List Int) (i : Int) : Int := if 0 ≤ i then l.getD i.toNat (-1) else -1
theorem rd_in {g : Int → Int} {n i : Int} (h : 0 ≤ i ∧ i < n) : rd (lst g n) i = g i := by
  unfold rd
  rw [if_pos h.1, List.getD_eq_getElem?_getD, lst_get h.1 h.2]
  rfl
theorem rd_out {g : Int → Int} {n i : Int} (h : i < 0 ∨ n ≤ i) : rd (lst g n) i = -1 := by
  unfold rd
  by_cases h0 : 0 ≤ i
  · rw [if_pos h0, List.getD_eq_getElem?_getD, List.getElem?_eq_none (by rw [lst_length]; omega)]
    rfl
  · rw [if_neg h0]
/-- how many bytes 10 stand before a place -/
def cntN (g : Int → Int) : Nat → Int
  | 0 => 0
  | k + 1 => cntN g k + (if g (k : Int) = 10 then 1 else 0)
def cnt (g : Int → Int) (n : Int) : Int := cntN g n.toNat
theorem cnt_0 (g : Int → Int) {n : Int} (h : n ≤ 0) : cnt g n = 0 := by
  unfold cnt
  rw [show n.toNat = 0 by omega]
  rfl
theorem cnt_succ (g : Int → Int) {n : Int} (h : 0 ≤ n) : cnt g (n + 1) = cnt g n + (if g n = 10 then 1 else 0) := by
  unfold cnt
  rw [show (n + 1).toNat = n.toNat + 1 by omega]
  show cntN g n.toNat + (if g (n.toNat : Int) = 10 then 1 else 0) = _
  rw [Int.toNat_of_nonneg h]
theorem cnt_le (g : Int → Int) {n : Int} (h : 0 ≤ n) : 0 ≤ cnt g n ∧ cnt g n ≤ n := by
  have H : ∀ k : Nat, 0 ≤ cntN g k ∧ cntN g k ≤ k := by
    intro k
    induction k with
    | zero => exact ⟨Int.le_refl _, Int.le_refl _⟩
    | succ k ih =>
      unfold cntN
      split <;> omega
  have := H n.toNat
  unfold cnt
  omega
theorem cnt_ext {g g' : Int → Int} {n : Int} (h : ∀ i, 0 ≤ i → i < n → g i = g' i) : cnt g n = cnt g' n := by
  have H : ∀ k : Nat, (k : Int) ≤ n → cntN g k = cntN g' k := by
    intro k
    induction k with
    | zero => intro _; rfl
    | succ k ih =>
      intro hk
      unfold cntN
      rw [ih (by omega), h k (by omega) (by omega)]
  unfold cnt
  by_cases h0 : 0 ≤ n
  · exact H _ (by omega)
  · rw [show n.toNat = 0 by omega]
    rfl
/-! the signs -/
abbrev isB (x : Int) : Prop := x = 9 ∨ x = 13 ∨ x = 32
abbrev isL (x : Int) : Prop := (97 ≤ x ∧ x ≤ 122) ∨ (65 ≤ x ∧ x ≤ 90)
abbrev isG (x : Int) : Prop := 48 ≤ x ∧ x ≤ 57
abbrev isNm (x : Int) : Prop := isL x ∨ isG x ∨ x = 95 ∨ x = 45 ∨ x = 46
def lowL (x : Int) : Int := if 65 ≤ x ∧ x ≤ 90 then x + 32 else x
def hexD (x : Int) : Int := if 48 ≤ x ∧ x ≤ 57 then x - 48 else if 65 ≤ x ∧ x ≤ 70 then x - 65 + 10 else if 97 ≤ x ∧ x ≤ 102 then x - 97 + 10 else -1
abbrev isC (v : Int) : Prop := 0 ≤ v ∧ v ≤ 1114111 ∧ (v < 55296 ∨ 57343 < v)
abbrev isN (v : Int) : Prop := 32 < v ∧ v ≠ 34 ∧ v ≠ 60 ∧ v ≠ 62 ∧ v ≠ 92 ∧ v ≠ 94 ∧ v ≠ 96 ∧ v ≠ 123 ∧ v ≠ 124 ∧ v ≠ 125
def sgn (x : Int) : Int := if x = 34 then 34 else if x = 39 then 39 else if x = 92 then 92 else if x = 98 then 8 else if x = 102 then 12 else if x = 110 then 10 else if x = 114 then 13 else if x = 116 then 9 else -1
def sgl (x : Int) : Int := if x = 9 then 116 else if x = 8 then 98 else if x = 10 then 110 else if x = 13 then 114 else if x = 12 then 102 else if x = 34 then 34 else if x = 92 then 92 else -1
theorem hexD_rg (x : Int) : -1 ≤ hexD x ∧ hexD x < 16 := by
  unfold hexD
  split
  · omega
  · split
    · omega
    · split <;> omega
