/-! pure rows: a row of numbers as a list -/
def lst (g : Int → Int) (n : Int) : List Int := (List.range n.toNat).map (fun i : Nat => g (i : Int))
theorem lst_length (g : Int → Int) (n : Int) : (lst g n).length = n.toNat := by simp [lst]
theorem lst_0 (g : Int → Int) : lst g 0 = [] := rfl
theorem lst_neg {g : Int → Int} {n : Int} (h : n ≤ 0) : lst g n = [] := by
  unfold lst
  rw [show n.toNat = 0 by omega]
  rfl
theorem lst_get {g : Int → Int} {n i : Int} (h0 : 0 ≤ i) (h1 : i < n) : (lst g n)[i.toNat]? = some (g i) := by
  unfold lst
  rw [List.getElem?_map, List.getElem?_range (by omega)]
  simp [Int.toNat_of_nonneg h0]
theorem lst_ext {g g' : Int → Int} {n : Int} (h : ∀ i, 0 ≤ i → i < n → g i = g' i) : lst g n = lst g' n := by
  unfold lst
  apply List.map_congr_left
  intro i hi
  have := List.mem_range.mp hi
  exact h i (by omega) (by omega)
theorem lst_eq {g g' : Int → Int} {n : Int} (h : lst g n = lst g' n) : ∀ i, 0 ≤ i → i < n → g i = g' i := by
  intro i h0 h1
  have a := lst_get (g := g) h0 h1
  rw [h, lst_get h0 h1] at a
  exact (Option.some.inj a).symm
theorem lst_succ (g : Int → Int) {n : Int} (h : 0 ≤ n) : lst g (n + 1) = lst g n ++ [g n] := by
  unfold lst
  rw [show (n + 1).toNat = n.toNat + 1 by omega, List.range_succ, List.map_append]
  simp [Int.toNat_of_nonneg h]
/-- a byte of a list, -1 where there is none -/
def rd (l : List Int) (i : Int) : Int := if 0 ≤ i then l.getD i.toNat (-1) else -1
theorem rd_in {g : Int → Int} {n i : Int} (h : 0 ≤ i ∧ i < n) : rd (lst g n) i = g i := by
  unfold rd
  rw [if_pos h.1, List.getD_eq_getElem?_getD, lst_get h.1 h.2]
  rfl
theorem rd_out {g : Int → Int} {n i : Int} (h : i < 0 ∨ n ≤ i) : rd (lst g n) i = -1 := by
  unfold rd
  by_cases h0 : 0 ≤ i
  · rw [if_pos h0, List.getD_eq_getElem?_getD, List.getElem?_eq_none (by rw [lst_length]; omega)]
    rfl
  · rw [if_neg h0]
/-- how many bytes 10 stand before a place -/
def cntN (g : Int → Int) : Nat → Int
  | 0 => 0
  | k + 1 => cntN g k + (if g (k : Int) = 10 then 1 else 0)
def cnt (g : Int → Int) (n : Int) : Int := cntN g n.toNat
theorem cnt_0 (g : Int → Int) {n : Int} (h : n ≤ 0) : cnt g n = 0 := by
  unfold cnt
  rw [show n.toNat = 0 by omega]
  rfl
theorem cnt_succ (g : Int → Int) {n : Int} (h : 0 ≤ n) : cnt g (n + 1) = cnt g n + (if g n = 10 then 1 else 0) := by
  unfold cnt
  rw [show (n + 1).toNat = n.toNat + 1 by omega]
  show cntN g n.toNat + (if g (n.toNat : Int) = 10 then 1 else 0) = _
  rw [Int.toNat_of_nonneg h]
theorem cnt_le (g : Int → Int) {n : Int} (h : 0 ≤ n) : 0 ≤ cnt g n ∧ cnt g n ≤ n := by
  have H : ∀ k : Nat, 0 ≤ cntN g k ∧ cntN g k ≤ k := by
    intro k
    induction k with
    | zero => exact ⟨Int.le_refl _, Int.le_refl _⟩
    | succ k ih =>
      unfold cntN
      split <;> omega
  have := H n.toNat
  unfold cnt
  omega
theorem cnt_ext {g g' : Int → Int} {n : Int} (h : ∀ i, 0 ≤ i → i < n → g i = g' i) : cnt g n = cnt g' n := by
  have H : ∀ k : Nat, (k : Int) ≤ n → cntN g k = cntN g' k := by
    intro k
    induction k with
    | zero => intro _; rfl
    | succ k ih =>
      intro hk
      unfold cntN
      rw [ih (by omega), h k (by omega) (by omega)]
  unfold cnt
  by_cases h0 : 0 ≤ n
  · exact H _ (by omega)
  · rw [show n.toNat = 0 by omega]
    rfl
