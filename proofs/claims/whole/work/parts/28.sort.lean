/-! lines in order -/
/-- one line comes before another -/
def llt : List Int → List Int → Bool
  | [], _ => false
  | _ :: _, [] => false
  | a :: l, b :: m => if a = b then llt l m else decide (a < b)
theorem llt_nr (l : List Int) : llt l [] = false := by cases l <;> rfl
theorem llt_eq {a b : Int} {l m : List Int} (h : a = b) : llt (a :: l) (b :: m) = llt l m := by
  conv => lhs; unfold llt
  rw [if_pos h]
theorem llt_ne {a b : Int} {l m : List Int} (h : a ≠ b) : llt (a :: l) (b :: m) = decide (a < b) := by
  unfold llt
  rw [if_neg h]
/-- a line: one byte 10, at its end -/
def okl : List Int → Prop
  | [] => False
  | a :: l => (a = 10 ∧ l = []) ∨ (a ≠ 10 ∧ okl l)
theorem okl_app : ∀ {b : List Int}, 10 ∉ b → okl (b ++ [10])
  | [], _ => Or.inl ⟨rfl, rfl⟩
  | a :: b, h => Or.inr ⟨fun e => h (e ▸ List.mem_cons_self), okl_app (fun q => h (List.mem_cons_of_mem _ q))⟩
theorem llt_asym : ∀ {x y : List Int}, llt x y = true → llt y x = false
  | [], _, h => by simp [llt] at h
  | _ :: _, [], h => by simp [llt] at h
  | a :: l, b :: m, h => by
    by_cases e : a = b
    · rw [llt_eq e] at h
      rw [llt_eq e.symm]
      exact llt_asym h
    · rw [llt_ne e] at h
      rw [llt_ne (Ne.symm e)]
      have := of_decide_eq_true h
      exact decide_eq_false (by omega)
theorem llt_tr : ∀ {x y z : List Int}, okl x → okl y → okl z → llt y x = false → llt z y = false → llt z x = false
  | [], _, _, h, _, _, _, _ => h.elim
  | _ :: _, [], _, _, h, _, _, _ => h.elim
  | _ :: _, _ :: _, [], _, _, h, _, _ => h.elim
  | a :: l, b :: m, c :: n, hx, hy, hz, h1, h2 => by
    by_cases e1 : b = a
    · by_cases e2 : c = b
      · subst e1; subst e2
        rw [llt_eq rfl] at h1 h2 ⊢
        rcases hx with ⟨x1, rfl⟩ | ⟨x1, x2⟩
        · exact llt_nr _
        · rcases hy with ⟨y1, y2⟩ | ⟨y1, y2⟩
          · exact absurd y1 x1
          · rcases hz with ⟨z1, z2⟩ | ⟨z1, z2⟩
            · exact absurd z1 x1
            · exact llt_tr x2 y2 z2 h1 h2
      · rw [llt_ne e2] at h2
        have := of_decide_eq_false h2
        rw [llt_ne (by omega)]
        exact decide_eq_false (by omega)
    · rw [llt_ne e1] at h1
      have := of_decide_eq_false h1
      by_cases e2 : c = b
      · rw [llt_ne (by omega)]
        exact decide_eq_false (by omega)
      · rw [llt_ne e2] at h2
        have := of_decide_eq_false h2
        rw [llt_ne (by omega)]
        exact decide_eq_false (by omega)
theorem llt_anti : ∀ {x y : List Int}, okl x → okl y → llt y x = false → llt x y = false → x = y
  | [], _, h, _, _, _ => h.elim
  | _ :: _, [], _, h, _, _ => h.elim
  | a :: l, b :: m, hx, hy, h1, h2 => by
    by_cases e : a = b
    · subst e
      rw [llt_eq rfl] at h1 h2
      rcases hx with ⟨x1, x2⟩ | ⟨x1, x2⟩ <;> rcases hy with ⟨y1, y2⟩ | ⟨y1, y2⟩
      · rw [x2, y2]
      · exact absurd x1 y1
      · exact absurd y1 x1
      · rw [llt_anti x2 y2 h1 h2]
    · rw [llt_ne e] at h2
      rw [llt_ne (Ne.symm e)] at h1
      have := of_decide_eq_false h1
      have := of_decide_eq_false h2
      omega
/-- a stands not behind b, L their lines -/
def Rle (L : Int → List Int) (a b : Int) : Prop := okl (L a) ∧ okl (L b) ∧ llt (L b) (L a) = false
theorem Rle_tr {L : Int → List Int} {a b c : Int} (h : Rle L a b) (h2 : Rle L b c) : Rle L a c := ⟨h.1, h2.2.1, llt_tr h.1 h.2.1 h2.2.1 h.2.2 h2.2.2⟩
theorem sort_uni {L : Int → List Int} {o c : List Int} (hp : o.Perm c) (ho : o.Pairwise (Rle L)) (hc : c.Pairwise (Rle L)) (hk : ∀ a ∈ o, okl (L a)) : o.map L = c.map L := by
  refine List.Perm.eq_of_pairwise (le := fun x y => llt y x = false) ?_ ?_ ?_ (hp.map L)
  · intro x y hx hy h1 h2
    obtain ⟨a, ha, rfl⟩ := List.mem_map.mp hx
    obtain ⟨b, hb, rfl⟩ := List.mem_map.mp hy
    exact llt_anti (hk a ha) (hk b (hp.symm.subset hb)) h1 h2
  · exact List.pairwise_map.mpr (ho.imp (fun h => h.2.2))
  · exact List.pairwise_map.mpr (hc.imp (fun h => h.2.2))
def Srt (R : Int → Int → Prop) (g : Int → Int) (i : Int) : Prop := ∀ a b, 0 ≤ a → a < b → b < i → R (g a) (g b)
def Hol (R : Int → Int → Prop) (g : Int → Int) (k i mv : Int) : Prop := (∀ a b, 0 ≤ a → a < b → b ≤ i → a ≠ k → b ≠ k → R (g a) (g b)) ∧ (∀ b, k < b → b ≤ i → R mv (g b))
theorem hol_start {R : Int → Int → Prop} {g : Int → Int} {i mv : Int} (h : Srt R g i) : Hol R g i i mv := ⟨fun a b h0 h1 h2 h3 h4 => h a b h0 h1 (by omega), fun b h0 h1 => by omega⟩
theorem hol_step {R : Int → Int → Prop} {O : Nat → Int32} {k i mv : Int} (hk : 0 < k) (h : Hol R (tI O) k i mv) (hr : R mv (tI O (k - 1))) : Hol R (tI (fu O k (tI O (k - 1)))) (k - 1) i mv := by
  refine ⟨fun a b h0 h1 h2 h3 h4 => ?_, fun b h0 h1 => ?_⟩
  · by_cases e : b = k
    · subst e
      rw [fu_eq (tI_rg _ _), fu_ne (by omega) h0 (by omega)]
      exact h.1 a (b - 1) h0 (by omega) (by omega) (by omega) (by omega)
    · by_cases e2 : a = k
      · subst e2
        rw [fu_eq (tI_rg _ _), fu_ne (by omega) (by omega) e]
        exact h.1 (a - 1) b (by omega) (by omega) h2 (by omega) e
      · rw [fu_ne (by omega) h0 e2, fu_ne (by omega) (by omega) e]
        exact h.1 a b h0 h1 h2 e2 e
  · by_cases e : b = k
    · subst e
      rw [fu_eq (tI_rg _ _)]
      exact hr
    · rw [fu_ne (by omega) (by omega) e]
      exact h.2 b (by omega) h1
theorem hol_end {L : Int → List Int} {O : Nat → Int32} {k i mv : Int} (hk : 0 ≤ k) (hm : -2147483648 ≤ mv ∧ mv < 2147483648) (h : Hol (Rle L) (tI O) k i mv) (hr : k = 0 ∨ Rle L (tI O (k - 1)) mv) (hki : k ≤ i) : Srt (Rle L) (tI (fu O k mv)) (i + 1) := by
  intro a b h0 h1 h2
  by_cases e : b = k
  · subst e
    rw [fu_eq hm, fu_ne hk h0 (by omega)]
    rcases hr with hr | hr
    · omega
    · by_cases e3 : a = b - 1
      · rw [e3]; exact hr
      · exact Rle_tr (h.1 a (b - 1) h0 (by omega) (by omega) (by omega) (by omega)) hr
  · by_cases e2 : a = k
    · subst e2
      rw [fu_eq hm, fu_ne hk (by omega) e]
      exact h.2 b h1 (by omega)
    · rw [fu_ne hk h0 e2, fu_ne hk (by omega) e]
      exact h.1 a b h0 h1 (by omega) e2 e
theorem srt_pw {R : Int → Int → Prop} {g : Int → Int} {i : Int} (h : Srt R g i) : (lst g i).Pairwise R := by
  unfold lst
  rw [List.pairwise_map]
  refine List.Pairwise.imp_of_mem ?_ List.pairwise_lt_range
  intro a b ha hb hab
  have := List.mem_range.mp hb
  exact h _ _ (by omega) (by omega) (by omega)
theorem mem_lst {α : Type} {g : Int → α} {n j : Int} (h0 : 0 ≤ j) (h1 : j < n) : g j ∈ lst g n := by
  unfold lst
  refine List.mem_map.mpr ⟨j.toNat, List.mem_range.mpr (by omega), ?_⟩
  rw [Int.toNat_of_nonneg h0]
theorem of_mem_lst {α : Type} {g : Int → α} {n : Int} {x : α} (h : x ∈ lst g n) : ∃ j, 0 ≤ j ∧ j < n ∧ x = g j := by
  unfold lst at h
  obtain ⟨j, hj, e⟩ := List.mem_map.mp h
  have := List.mem_range.mp hj
  exact ⟨j, by omega, by omega, e.symm⟩
theorem lst_split {α : Type} (g : Int → α) {n k : Int} (h0 : 0 ≤ k) (h1 : k + 1 < n) : lst g n = lst g k ++ (g k :: g (k + 1) :: (lst g n).drop (k + 2).toNat) := by
  conv => lhs; rw [← List.take_append_drop k.toNat (lst g n)]
  rw [lst_take g (by omega), lst_drop g h0 (by omega), lst_drop g (by omega) h1, show k + 1 + 1 = k + 2 by omega]
theorem lst_tail_ext {α : Type} {g g' : Int → α} {n k : Int} (h0 : 0 ≤ k) (h : ∀ i, k ≤ i → i < n → g i = g' i) : (lst g n).drop k.toNat = (lst g' n).drop k.toNat := by
  apply List.ext_getElem?
  intro j
  rw [List.getElem?_drop, List.getElem?_drop]
  by_cases hj : k + j < n
  · have e1 := lst_get (g := g) (n := n) (i := k + j) (by omega) hj
    have e2 := lst_get (g := g') (n := n) (i := k + j) (by omega) hj
    rw [show (k + (j : Int)).toNat = k.toNat + j by omega] at e1 e2
    rw [e1, e2, h _ (by omega) hj]
  · rw [List.getElem?_eq_none (by rw [lst_length]; omega), List.getElem?_eq_none (by rw [lst_length]; omega)]
theorem lst_swap {α : Type} {g g' : Int → α} {n k : Int} (h0 : 0 ≤ k) (h1 : k + 1 < n) (ha : g' k = g (k + 1)) (hb : g' (k + 1) = g k) (hc : ∀ i, 0 ≤ i → i < n → i ≠ k → i ≠ k + 1 → g' i = g i) : (lst g' n).Perm (lst g n) := by
  rw [lst_split g h0 h1, lst_split g' h0 h1, lst_ext (g := g') (g' := g) (n := k) (fun i i0 i1 => hc i i0 (by omega) (by omega) (by omega)), lst_tail_ext (g := g') (g' := g) (n := n) (k := k + 2) (by omega) (fun i i0 i1 => hc i (by omega) i1 (by omega) (by omega)), ha, hb]
  exact (List.Perm.swap _ _ _).append_left _
theorem perm_step {O : Nat → Int32} {k mv n : Int} (hk : 0 < k) (hn : k < n) (hm : -2147483648 ≤ mv ∧ mv < 2147483648) : (lst (tI (fu (fu O k (tI O (k - 1))) (k - 1) mv)) n).Perm (lst (tI (fu O k mv)) n) := by
  refine lst_swap (k := k - 1) (by omega) (by omega) ?_ ?_ ?_
  · rw [fu_eq hm, show k - 1 + 1 = k by omega, fu_eq hm]
  · rw [show k - 1 + 1 = k by omega, fu_ne (by omega) (by omega) (by omega), fu_eq (tI_rg _ _), fu_ne (by omega) (by omega) (by omega)]
  · intro i i0 i1 i2 i3
    rw [fu_ne (by omega) i0 i2, fu_ne (by omega) i0 (by omega), fu_ne (by omega) i0 (by omega)]
theorem fu_self {O : Nat → Int32} {i n : Int} (hi : 0 ≤ i) : lst (tI (fu O i (tI O i))) n = lst (tI O) n := by
  apply lst_ext
  intro j j0 j1
  by_cases e : j = i
  · subst e; rw [fu_eq (tI_rg _ _)]
  · rw [fu_ne hi j0 e]
theorem hol_rg {O Of : Nat → Int32} {k mv n m : Int} (h : (lst (tI (fu O k mv)) n).Perm (lst (tI Of) n)) (hr : ∀ j, 0 ≤ j → j < n → 0 ≤ tI Of j ∧ tI Of j < m) (hk : 0 ≤ k) : ∀ j, 0 ≤ j → j < n → j ≠ k → 0 ≤ tI O j ∧ tI O j < m := by
  intro j j0 j1 j2
  have := h.subset (mem_lst (g := tI (fu O k mv)) j0 j1)
  obtain ⟨x, x0, x1, e⟩ := of_mem_lst this
  rw [fu_ne hk j0 j2] at e
  rw [e]
  exact hr x x0 x1
theorem perm_rg {O Of : Nat → Int32} {n m : Int} (h : (lst (tI O) n).Perm (lst (tI Of) n)) (hr : ∀ j, 0 ≤ j → j < n → 0 ≤ tI Of j ∧ tI Of j < m) : ∀ j, 0 ≤ j → j < n → 0 ≤ tI O j ∧ tI O j < m := by
  intro j j0 j1
  obtain ⟨x, x0, x1, e⟩ := of_mem_lst (h.subset (mem_lst (g := tI O) j0 j1))
  rw [e]
  exact hr x x0 x1
/-! the printed lines -/
def Lp (f Sf : Nat → Int32) (a : Int) : List Int := seg f (tI Sf a) (tI Sf (a + 1) - tI Sf a)
def sOk (Sf : Nat → Int32) (pz n : Int) : Prop := 0 ≤ pz ∧ pz ≤ 80 ∧ ∀ a, 0 ≤ a → a < pz → 0 ≤ tI Sf a ∧ tI Sf a ≤ tI Sf (a + 1) ∧ tI Sf (a + 1) ≤ n
def mnI (x y : Int) : Int := if y < x then y else x
theorem mnI_rg (x y : Int) : mnI x y ≤ x ∧ mnI x y ≤ y ∧ (mnI x y = x ∨ mnI x y = y) := by
  unfold mnI
  split <;> omega
theorem lltP_ne {f Sf : Nat → Int32} {a b i : Int} (h0 : 0 ≤ i) (h1 : i < mnI (tI Sf (a + 1) - tI Sf a) (tI Sf (b + 1) - tI Sf b)) (hl : llt ((Lp f Sf a).drop i.toNat) ((Lp f Sf b).drop i.toNat) = llt (Lp f Sf a) (Lp f Sf b)) (h : tI f (tI Sf a + i) ≠ tI f (tI Sf b + i)) : llt (Lp f Sf a) (Lp f Sf b) = decide (tI f (tI Sf a + i) < tI f (tI Sf b + i)) := by
  have hm := mnI_rg (tI Sf (a + 1) - tI Sf a) (tI Sf (b + 1) - tI Sf b)
  rw [← hl]
  unfold Lp seg
  rw [lst_drop _ h0 (by omega), lst_drop _ h0 (by omega)]
  exact llt_ne h
theorem lltP_eq {f Sf : Nat → Int32} {a b i : Int} (h0 : 0 ≤ i) (h1 : i < mnI (tI Sf (a + 1) - tI Sf a) (tI Sf (b + 1) - tI Sf b)) (hl : llt ((Lp f Sf a).drop i.toNat) ((Lp f Sf b).drop i.toNat) = llt (Lp f Sf a) (Lp f Sf b)) (h : tI f (tI Sf a + i) = tI f (tI Sf b + i)) : llt ((Lp f Sf a).drop (i + 1).toNat) ((Lp f Sf b).drop (i + 1).toNat) = llt (Lp f Sf a) (Lp f Sf b) := by
  have hm := mnI_rg (tI Sf (a + 1) - tI Sf a) (tI Sf (b + 1) - tI Sf b)
  rw [← hl]
  unfold Lp seg
  rw [lst_drop _ h0 (show i < tI Sf (a + 1) - tI Sf a by omega), lst_drop _ h0 (show i < tI Sf (b + 1) - tI Sf b by omega)]
  exact (llt_eq h).symm
theorem lltP_end {f Sf : Nat → Int32} {a b i : Int} (h1 : mnI (tI Sf (a + 1) - tI Sf a) (tI Sf (b + 1) - tI Sf b) ≤ i) (hl : llt ((Lp f Sf a).drop i.toNat) ((Lp f Sf b).drop i.toNat) = llt (Lp f Sf a) (Lp f Sf b)) : llt (Lp f Sf a) (Lp f Sf b) = false := by
  have hm := mnI_rg (tI Sf (a + 1) - tI Sf a) (tI Sf (b + 1) - tI Sf b)
  rw [← hl]
  unfold Lp seg
  rcases hm.2.2 with e | e
  · rw [lst_dropN _ (show tI Sf (a + 1) - tI Sf a ≤ i by omega)]
    rfl
  · rw [lst_dropN (n := tI Sf (b + 1) - tI Sf b) _ (by omega)]
    exact llt_nr _
theorem cp_step {f : Nat → Int32} {s k z : Int} {X : List Int} (h : s ≤ k) (hz : z = tI f k) : (X ++ seg f s (k - s)) ++ [z] = X ++ seg f s (k + 1 - s) := by
  rw [show k + 1 - s = (k - s) + 1 by omega, seg_succ (by omega), List.append_assoc, hz, show s + (k - s) = k by omega]
theorem fl_step {α : Type} {g : Int → α} {L : α → List Int} {i : Int} (h : 0 ≤ i) : ((lst g i).map L).flatten ++ L (g i) = ((lst g (i + 1)).map L).flatten := by
  rw [lst_succ _ h]
  simp
theorem fl_step' {L : Int → List Int} {i : Int} (h : 0 ≤ i) : (lst L i).flatten ++ L i = (lst L (i + 1)).flatten := by
  rw [lst_succ _ h]
  simp
theorem fl_mono {L : Int → List Int} {i j : Int} (hj : i ≤ j) : (lst L i).flatten.length ≤ (lst L j).flatten.length := by
  rw [← lst_take L hj]
  conv => rhs; rw [← List.take_append_drop i.toNat (lst L j), List.flatten_append, List.length_append]
  omega
theorem Pw_fit {n2 s2 : Int} {f2 f : Nat → Int32} {X : List Int} (h : Pw n2 f2 s2 0 f 0 X) (hs : s2 = 0) : X.length ≤ 3000 ∧ n2 = X.length ∧ lst (tI f2) n2 = X := by
  obtain ⟨a, b, c⟩ := h
  have hx : X.length ≤ 3000 := by
    by_cases q : 3000 < 0 + (X.length : Int)
    · rw [if_pos q] at c; omega
    · omega
  rw [lst_neg (g := tI f) (Int.le_refl 0), List.nil_append, List.take_of_length_le hx] at b
  have := congrArg List.length b
  rw [lst_length] at this
  exact ⟨hx, by omega, b⟩
theorem Pw_s {n2 s2 : Int} {f2 f : Nat → Int32} {X : List Int} (h : Pw n2 f2 s2 0 f 0 X) : (s2 = 0 ∧ X.length ≤ 3000) ∨ (s2 = 1 ∧ 3000 < X.length) := by
  obtain ⟨-, -, c⟩ := h
  by_cases q : 3000 < 0 + (X.length : Int)
  · rw [if_pos q] at c; exact Or.inr ⟨c, by omega⟩
  · rw [if_neg q] at c; exact Or.inl ⟨c, by omega⟩
/-- the starts of the lines so far -/
def Fil (S : Nat → Int32) (L : Int → List Int) (i : Int) : Prop := 0 < i → ∀ j, 0 ≤ j → j ≤ i → tI S j = ((lst L j).flatten.length : Int)
theorem fil_step {S : Nat → Int32} {L : Int → List Int} {i a b : Int} (hi : 0 ≤ i) (h : Fil S L i) (ha : a = ((lst L i).flatten.length : Int)) (hb : b = ((lst L (i + 1)).flatten.length : Int)) (hl : b ≤ 3000) : Fil (fu (fu S i a) (i + 1) b) L (i + 1) := by
  intro _ j j0 j1
  have hm := fl_mono (L := L) (show i ≤ i + 1 by omega)
  by_cases e : j = i + 1
  · subst e
    rw [fu_eq (by omega), hb]
  · rw [fu_ne (by omega) j0 e]
    by_cases e2 : j = i
    · subst e2
      rw [fu_eq (by omega), ha]
    · rw [fu_ne hi j0 e2]
      exact h (by omega) j j0 (by omega)
theorem Lp_line {f S : Nat → Int32} {L : Int → List Int} {n m j : Int} (h : lst (tI f) n = (lst L m).flatten) (hS : Fil S L m) (h0 : 0 ≤ j) (h1 : j < m) : Lp f S j = L j := by
  have e1 := hS (by omega) j h0 (by omega)
  have e2 := hS (by omega) (j + 1) (by omega) (by omega)
  have e3 : ((lst L (j + 1)).flatten.length : Int) = (lst L j).flatten.length + (L j).length := by
    rw [← fl_step' h0, List.length_append]; omega
  have hm : (lst L m).flatten = (lst L j).flatten ++ (L j ++ ((lst L m).drop (j + 1).toNat).flatten) := by
    conv => lhs; rw [← List.take_append_drop (j + 1).toNat (lst L m), List.flatten_append, lst_take L (show j + 1 ≤ m by omega), ← fl_step' h0, List.append_assoc]
  have hlen : n.toNat = (lst L m).flatten.length := by rw [← h, lst_length]
  have hmono := fl_mono (L := L) (show j + 1 ≤ m by omega)
  unfold Lp
  rw [e1, e2, e3]
  apply List.ext_getElem?
  intro x
  by_cases hx : x < (L j).length
  · unfold seg
    have a1 := lst_get (g := fun i => tI f (((lst L j).flatten.length : Int) + i)) (n := ((lst L j).flatten.length + (L j).length : Int) - (lst L j).flatten.length) (i := (x : Int)) (by omega) (by omega)
    rw [Int.toNat_natCast] at a1
    rw [a1]
    have a2 := lst_get (g := tI f) (n := n) (i := ((lst L j).flatten.length : Int) + x) (by omega) (by omega)
    rw [h, hm, show (((lst L j).flatten.length : Int) + x).toNat = (lst L j).flatten.length + x by omega, List.getElem?_append_right (by omega), Nat.add_sub_cancel_left, List.getElem?_append_left hx] at a2
    exact a2.symm
  · unfold seg
    rw [List.getElem?_eq_none (by rw [lst_length]; omega), List.getElem?_eq_none (by omega)]
theorem sOk_of {f S : Nat → Int32} {L : Int → List Int} {n m : Int} (h : lst (tI f) n = (lst L m).flatten) (hn : 0 ≤ n) (hS : Fil S L m) (hm : 0 ≤ m ∧ m ≤ 80) : sOk S m n := by
  have hlen : n.toNat = (lst L m).flatten.length := by rw [← h, lst_length]
  refine ⟨hm.1, hm.2, fun a a0 a1 => ?_⟩
  rw [hS (by omega) a a0 (by omega), hS (by omega) (a + 1) (by omega) (by omega)]
  have h1 := fl_mono (L := L) (show a ≤ a + 1 by omega)
  have h2 := fl_mono (L := L) (show a + 1 ≤ m by omega)
  omega
/-- what print leaves: the lines in an order -/
def prO (L : Int → List Int) (m form : Int) (X : List Int) : Prop := ∃ o : List Int, o.Perm (lst (fun i => i) m) ∧ (form = 0 → o = lst (fun i => i) m) ∧ (form = 1 → o.Pairwise (Rle L)) ∧ X = (o.map L).flatten
theorem prO_uni {L : Int → List Int} {m form : Int} {X Y : List Int} (hf : form = 0 ∨ form = 1) (hk : ∀ j, 0 ≤ j → j < m → okl (L j)) (hx : prO L m form X) (hy : prO L m form Y) : X = Y := by
  obtain ⟨o, a1, a2, a3, a4⟩ := hx
  obtain ⟨c, b1, b2, b3, b4⟩ := hy
  rcases hf with e | e
  · rw [a4, b4, a2 e, b2 e]
  · rw [a4, b4, sort_uni (a1.trans b1.symm) (a3 e) (b3 e)]
    intro a ha
    obtain ⟨j, j0, j1, rfl⟩ := of_mem_lst (a1.subset ha)
    exact hk _ j0 j1
theorem prO_of {f S O : Nat → Int32} {L : Int → List Int} {n m form : Int} (h : lst (tI f) n = (lst L m).flatten) (hS : Fil S L m) (hp : (lst (tI O) m).Perm (lst (fun i => i) m)) (h0 : form = 0 → lst (tI O) m = lst (fun i => i) m) (h1 : form = 1 → (lst (tI O) m).Pairwise (Rle (Lp f S))) : prO L m form (((lst (tI O) m).map (Lp f S)).flatten) := by
  have hin : ∀ a ∈ lst (tI O) m, Lp f S a = L a := by
    intro a ha
    obtain ⟨j, j0, j1, rfl⟩ := of_mem_lst (hp.subset ha)
    exact Lp_line h hS j0 j1
  refine ⟨_, hp, h0, fun e => ?_, ?_⟩
  · refine (h1 e).imp_of_mem ?_
    intro a b ha hb hab
    unfold Rle at hab ⊢
    rw [hin a ha, hin b hb] at hab
    exact hab
  · rw [List.map_congr_left hin]
theorem ord_id {O : Nat → Int32} {m : Int} (h : ∀ j, 0 ≤ j → j < m → tI O j = j) : lst (tI O) m = lst (fun i => i) m := lst_ext h
/-- what print answers and leaves -/
def prA (L : Int → List Int) (m form z : Int) (X Y : List Int) : Prop :=
  (¬ (form = 0 ∨ form = 1) ∧ z = -1 ∧ Y = X) ∨ ((form = 0 ∨ form = 1) ∧ 3000 < (lst L m).flatten.length ∧ z = -3 ∧ Y = X) ∨ ((form = 0 ∨ form = 1) ∧ (lst L m).flatten.length ≤ 3000 ∧ z = Y.length ∧ prO L m form Y)
theorem lst_map {α β : Type} (g : Int → α) (L : α → β) (m : Int) : (lst g m).map L = lst (fun i => L (g i)) m := by
  unfold lst
  rw [List.map_map]
  rfl
theorem prO_len {L : Int → List Int} {m form : Int} {X : List Int} (h : prO L m form X) : X.length = (lst L m).flatten.length := by
  obtain ⟨o, a1, -, -, rfl⟩ := h
  rw [List.length_flatten, List.length_flatten, List.Perm.sum_nat ((a1.map L).map List.length), lst_map]
theorem prA_fit {L : Int → List Int} {m form no2 so2 : Int} {fo2 fo : Nat → Int32} {X : List Int} (h : Pw no2 fo2 so2 0 fo 0 X) (hp : prO L m form X) (hl : (lst L m).flatten.length ≤ 3000) (hf : form = 0 ∨ form = 1) : (form = 0 ∨ form = 1) ∧ (lst L m).flatten.length ≤ 3000 ∧ no2 = ((lst (tI fo2) no2).length : Int) ∧ prO L m form (lst (tI fo2) no2) := by
  have e := prO_len hp
  have h1 : so2 = 0 := by
    rcases Pw_s h with h2 | h2
    · exact h2.1
    · omega
  have h3 := Pw_fit h h1
  refine ⟨hf, hl, ?_, ?_⟩
  · rw [h3.2.2]; exact h3.2.1
  · rw [h3.2.2]; exact hp
theorem ord_rg {O : Nat → Int32} {m : Int} (h : ∀ j, 0 ≤ j → j < m → tI O j = j) : ∀ j, 0 ≤ j → j < m → 0 ≤ tI O j ∧ tI O j < m := fun j h0 h1 => by rw [h j h0 h1]; exact ⟨h0, h1⟩
