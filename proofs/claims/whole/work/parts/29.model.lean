/-! the reference's own words -/
def ltr (x : Int) : Int := if x = 9 then 116 else if x = 8 then 98 else if x = 10 then 110 else if x = 13 then 114 else if x = 12 then 102 else -1
theorem hv_neg {T : List Int} : ∀ (k : Nat) (p a b : Int), 0 ≤ a → 0 ≤ b → hv T k p a = -1 → hv T k p b = -1 := by
  intro k
  induction k with
  | zero => intro p a b h0 h1 h; unfold hv at h; omega
  | succ k ih =>
    intro p a b h0 h1 h
    by_cases hx : hexD (rd T p) = -1
    · exact hv_n hx
    · have hr := hexD_rg (rd T p)
      rw [hv_s hx] at h ⊢
      exact ih _ _ _ (by omega) (by omega) h
theorem hv_iff {T : List Int} {k : Nat} {p a b : Int} (h0 : 0 ≤ a) (h1 : 0 ≤ b) : hv T k p a = -1 ↔ hv T k p b = -1 := ⟨hv_neg k p a b h0 h1, hv_neg k p b a h1 h0⟩
/-- how many digits stand behind \u or \U, 0 if one is none -/
def dgt (T : List Int) (p : Int) : Int := if rd T (p + 1) = 117 then (if hv T 4 (p + 2) 0 = -1 then 0 else 4) else if rd T (p + 1) = 85 then (if hv T 8 (p + 2) 0 = -1 then 0 else 8) else 0
def dgL (T : List Int) (p n k : Int) : Int := if n ≤ k then n else if hv T (n - k).toNat (p + 2 + k) 0 = -1 then 0 else n
theorem dgL_u {T : List Int} {p : Int} (h : rd T (p + 1) = 117) : dgL T p 4 0 = dgt T p := by
  unfold dgL dgt
  rw [if_neg (by omega), if_pos h, show p + 2 + 0 = p + 2 by omega, show ((4 : Int) - 0).toNat = 4 from rfl]
theorem dgL_U {T : List Int} {p : Int} (h : rd T (p + 1) ≠ 117) (h2 : rd T (p + 1) = 85) : dgL T p 8 0 = dgt T p := by
  unfold dgL dgt
  rw [if_neg (by omega), if_neg h, if_pos h2, show p + 2 + 0 = p + 2 by omega, show ((8 : Int) - 0).toNat = 8 from rfl]
theorem dgL_o {T : List Int} {p : Int} (h : rd T (p + 1) ≠ 117) (h2 : rd T (p + 1) ≠ 85) : dgL T p 0 0 = dgt T p := by
  unfold dgL dgt
  rw [if_pos (by omega), if_neg h, if_neg h2]
theorem dgL_bad {T : List Int} {p n k : Int} (h0 : 0 ≤ k) (h : k < n) (hx : hexD (rd T (p + 2 + k)) = -1) : dgL T p 0 (k + 1) = dgL T p n k := by
  unfold dgL
  rw [if_pos (by omega), if_neg (by omega), show (n - k).toNat = (n - k).toNat - 1 + 1 by omega, hv_n hx, if_pos rfl]
theorem dgL_good {T : List Int} {p n k : Int} (h0 : 0 ≤ k) (h : k < n) (hx : hexD (rd T (p + 2 + k)) ≠ -1) : dgL T p n (k + 1) = dgL T p n k := by
  have hr := hexD_rg (rd T (p + 2 + k))
  unfold dgL
  by_cases e : n ≤ k + 1
  · rw [if_pos e, if_neg (by omega), show (n - k).toNat = 0 + 1 by omega, hv_s hx, if_neg]
    unfold hv
    omega
  · rw [if_neg e, if_neg (show ¬ n ≤ k by omega), show (n - k).toNat = (n - (k + 1)).toNat + 1 by omega, hv_s hx, show p + 2 + k + 1 = p + 2 + (k + 1) by omega]
    by_cases e2 : hv T (n - (k + 1)).toNat (p + 2 + (k + 1)) 0 = -1
    · rw [if_pos e2, if_pos ((hv_iff (Int.le_refl 0) (by omega)).mp e2)]
    · rw [if_neg e2, if_neg (fun q => e2 ((hv_iff (by omega) (Int.le_refl 0)).mp q))]
theorem dgL_end {T : List Int} {p n k : Int} (h : n ≤ k) : dgL T p n k = n := if_pos h
theorem dgt_rg (T : List Int) (p : Int) : dgt T p = 0 ∨ dgt T p = 4 ∨ dgt T p = 8 := by
  unfold dgt
  repeat' split
  all_goals omega
theorem dgt_hv {T : List Int} {p : Int} (h : 0 < dgt T p) : hv T (dgt T p).toNat (p + 2) 0 ≠ -1 ∧ ((rd T (p + 1) = 117 ∧ dgt T p = 4) ∨ (rd T (p + 1) = 85 ∧ dgt T p = 8)) := by
  unfold dgt at h ⊢
  by_cases h1 : rd T (p + 1) = 117
  · rw [if_pos h1] at h ⊢
    by_cases h2 : hv T 4 (p + 2) 0 = -1
    · rw [if_pos h2] at h; omega
    · rw [if_neg h2]; exact ⟨h2, Or.inl ⟨h1, rfl⟩⟩
  · rw [if_neg h1] at h ⊢
    by_cases h3 : rd T (p + 1) = 85
    · rw [if_pos h3] at h ⊢
      by_cases h2 : hv T 8 (p + 2) 0 = -1
      · rw [if_pos h2] at h; omega
      · rw [if_neg h2]; exact ⟨h2, Or.inr ⟨h3, rfl⟩⟩
    · rw [if_neg h3] at h; omega
theorem dgt_0 {T : List Int} {p : Int} (h : dgt T p = 0) : (rd T (p + 1) = 117 → hv T 4 (p + 2) 0 = -1) ∧ (rd T (p + 1) ≠ 117 → rd T (p + 1) = 85 → hv T 8 (p + 2) 0 = -1) := by
  unfold dgt at h
  constructor
  · intro h1
    rw [if_pos h1] at h
    by_cases h2 : hv T 4 (p + 2) 0 = -1
    · exact h2
    · rw [if_neg h2] at h; omega
  · intro h1 h3
    rw [if_neg h1, if_pos h3] at h
    by_cases h2 : hv T 8 (p + 2) 0 = -1
    · exact h2
    · rw [if_neg h2] at h; omega
/-- the number behind \u or \U -/
def vlu (T : List Int) (p : Int) : Int := hv T (dgt T p).toNat (p + 2) 0
theorem sc_dig {T : List Int} {kd p : Int} (h : 0 < dgt T p) : sc T kd p = cod (vlu T p) ∧ sl T p = dgt T p + 2 := by
  have h1 := (dgt_hv h).2
  unfold sc sl vlu
  rcases h1 with ⟨a, b⟩ | ⟨a, b⟩
  · rw [if_pos a, if_pos a, b]; exact ⟨rfl, rfl⟩
  · rw [if_neg (show ¬ rd T (p + 1) = 117 by omega), if_neg (show ¬ rd T (p + 1) = 117 by omega), if_pos a, if_pos a, b]; exact ⟨rfl, rfl⟩
theorem sc_nodig {T : List Int} {kd p : Int} (h : dgt T p = 0) : sc T kd p = (if rd T (p + 1) = 117 ∨ rd T (p + 1) = 85 then -1 else if kd = 2 then sgn (rd T (p + 1)) else -1) := by
  have h1 := dgt_0 h
  have c1 : cod (-1) = -1 := by decide
  unfold sc
  by_cases a : rd T (p + 1) = 117
  · rw [if_pos a, h1.1 a, if_pos (Or.inl a), c1]
  · rw [if_neg a]
    by_cases b : rd T (p + 1) = 85
    · rw [if_pos b, h1.2 a b, if_pos (Or.inr b), c1]
    · rw [if_neg b, if_neg (show ¬ (rd T (p + 1) = 117 ∨ rd T (p + 1) = 85) by omega)]
theorem sgn_u {x : Int} (h : x = 117 ∨ x = 85) : sgn x = -1 := by rcases h with rfl | rfl <;> decide
theorem sgn_sl {T : List Int} {p : Int} (h : sgn (rd T (p + 1)) ≠ -1) : sl T p = 2 ∧ sc T 2 p = sgn (rd T (p + 1)) := by
  have a : rd T (p + 1) ≠ 117 := fun e => h (sgn_u (Or.inl e))
  have b : rd T (p + 1) ≠ 85 := fun e => h (sgn_u (Or.inr e))
  unfold sl sc
  rw [if_neg a, if_neg b, if_neg a, if_neg b, if_pos rfl]
  exact ⟨rfl, rfl⟩
theorem sgn_rg (x : Int) : -1 ≤ sgn x ∧ sgn x ≤ 92 := by
  unfold sgn
  repeat' split
  all_goals omega
theorem hv_ge {T : List Int} : ∀ (k : Nat) (p a : Int), 0 ≤ a → -1 ≤ hv T k p a := by
  intro k
  induction k with
  | zero => intro p a h; unfold hv; omega
  | succ k ih =>
    intro p a h
    by_cases hx : hexD (rd T p) = -1
    · rw [hv_n hx]; omega
    · have hr := hexD_rg (rd T p)
      rw [hv_s hx]
      exact ih _ _ (by omega)
/-! the reference's terms -/
def Mt (K Ln C TL TG TY MD TA : Nat → Int32) (kd ty sz tz a t : Int) : Prop := tmAt K Ln C TL TG TY t = (kd, lst (tI MD) sz, lst (tI TA) tz, ty) ∧ a ≤ t
section MT
variable {K Ln C TL TG TY MD TA : Nat → Int32} {kd ty sz tz a t : Int}
theorem mt_n1 (h : tI K t ≠ kd) : ¬ Mt K Ln C TL TG TY MD TA kd ty sz tz a t := fun q => by
  have e := q.1
  simp only [tmAt, Prod.mk.injEq] at e
  exact h e.1
theorem mt_n2 (h : tI TY t ≠ ty) : ¬ Mt K Ln C TL TG TY MD TA kd ty sz tz a t := fun q => by
  have e := q.1
  simp only [tmAt, Prod.mk.injEq] at e
  exact h e.2.2.2
theorem mt_n3 (hn : 0 ≤ tI Ln t) (hz : 0 ≤ sz) (h : tI Ln t ≠ sz) : ¬ Mt K Ln C TL TG TY MD TA kd ty sz tz a t := fun q => by
  have e := q.1
  simp only [tmAt, Prod.mk.injEq] at e
  exact h (lst_eqn hn hz e.2.1)
theorem mt_n4 (hn : 0 ≤ tI TL t) (hz : 0 ≤ tz) (h : tI TL t ≠ tz) : ¬ Mt K Ln C TL TG TY MD TA kd ty sz tz a t := fun q => by
  have e := q.1
  simp only [tmAt, Prod.mk.injEq] at e
  exact h (lst_eqn hn hz e.2.2.1)
theorem mt_n5 (h : ¬ a ≤ t) : ¬ Mt K Ln C TL TG TY MD TA kd ty sz tz a t := fun q => h q.2
/-- all but the texts -/
def Mb (K Ln TL TY : Nat → Int32) (kd ty sz tz a t : Int) : Prop := tI K t = kd ∧ tI TY t = ty ∧ tI Ln t = sz ∧ tI TL t = tz ∧ a ≤ t
theorem mt_nc (hb : Mb K Ln TL TY kd ty sz tz a t) {k : Int} (h0 : 0 ≤ k) (h1 : k < sz) (h : tI C (40 * t + k) ≠ tI MD k) : ¬ Mt K Ln C TL TG TY MD TA kd ty sz tz a t := fun q => by
  have e := q.1
  simp only [tmAt, Prod.mk.injEq] at e
  have e2 := e.2.1
  rw [hb.2.2.1] at e2
  exact h (by rw [Int.mul_comm]; exact lst_eq e2 k h0 h1)
theorem mt_nt (hb : Mb K Ln TL TY kd ty sz tz a t) {k : Int} (h0 : 0 ≤ k) (h1 : k < tz) (h : tI TG (16 * t + k) ≠ tI TA k) : ¬ Mt K Ln C TL TG TY MD TA kd ty sz tz a t := fun q => by
  have e := q.1
  simp only [tmAt, Prod.mk.injEq] at e
  have e2 := e.2.2.1
  rw [hb.2.2.2.1] at e2
  exact h (by rw [Int.mul_comm]; exact lst_eq e2 k h0 h1)
theorem mt_y (hb : Mb K Ln TL TY kd ty sz tz a t) (h1 : ∀ j, 0 ≤ j → j < sz → tI C (40 * t + j) = tI MD j) (h2 : ∀ j, 0 ≤ j → j < tz → tI TG (16 * t + j) = tI TA j) : Mt K Ln C TL TG TY MD TA kd ty sz tz a t := by
  obtain ⟨b1, b2, b3, b4, b5⟩ := hb
  refine ⟨?_, b5⟩
  unfold tmAt
  rw [b1, b2, b3, b4]
  have e1 : seg C (t * 40) sz = lst (tI MD) sz := lst_ext (fun j j0 j1 => by rw [Int.mul_comm t 40]; exact h1 j j0 j1)
  have e2 : seg TG (t * 16) tz = lst (tI TA) tz := lst_ext (fun j j0 j1 => by rw [Int.mul_comm t 16]; exact h2 j j0 j1)
  rw [e1, e2]
end MT
theorem all_step {F G : Int → Int} {k : Int} (h : ∀ j, 0 ≤ j → j < k → F j = G j) (hk : F k = G k) : ∀ j, 0 ≤ j → j < k + 1 → F j = G j := fun j j0 j1 => by
  rcases (show j < k ∨ j = k by omega) with h9 | h9
  · exact h j j0 h9
  · rw [h9]; exact hk
/-- which terms are of this reading -/
def scO (SC : Nat → Int32) (tr fr n : Int) : Prop := ∀ t, 0 ≤ t → t < n → (tI SC t = tr ↔ fr ≤ t) ∧ tI SC t ≤ tr
theorem scO_push {SC : Nat → Int32} {tr fr n : Int} (hn : 0 ≤ n) (hf : fr ≤ n) (hr : -2147483648 ≤ tr ∧ tr < 2147483648) (h : scO SC tr fr n) : scO (fu SC n tr) tr fr (n + 1) := by
  intro t t0 t1
  by_cases e : t = n
  · subst e; rw [fu_eq hr]; exact ⟨⟨fun _ => hf, fun _ => rfl⟩, Int.le_refl _⟩
  · rw [fu_ne hn t0 e]; exact h t t0 (by omega)
def nOutM (ts2 : List Tm) (ov2 z : Int) (ts : List Tm) (a : Int) (v : Tm) : Prop :=
  (idxF (ts.drop a.toNat) a v ≠ -1 ∧ z = idxF (ts.drop a.toNat) a v ∧ ts2 = ts ∧ ov2 = 0) ∨ (idxF (ts.drop a.toNat) a v = -1 ∧ 120 ≤ ts.length ∧ z = 0 ∧ ts2 = ts ∧ ov2 = 1) ∨ (idxF (ts.drop a.toNat) a v = -1 ∧ ts.length < 120 ∧ z = ts.length ∧ ts2 = ts ++ [v] ∧ ov2 = 0)
def qAnM (P : Nat → Int32) (qz i w : Int) : Int := if (0 ≤ i ∧ i < qz) ∧ 0 ≤ w ∧ w < 4 then (if tI P (4 * i + w) < 0 then -2 else tI P (4 * i + w)) else -1
def tAnM (K Ln TL TY : Nat → Int32) (sz t w : Int) : Int := if 0 ≤ t ∧ t < sz then (if w = 0 then tI K t else if w = 1 then (if 0 < tI TL t then 1 else if 0 ≤ tI TY t then 2 else 0) else if w = 2 then tI Ln t else if w = 3 then tI TL t else if w = 4 then (if tI TY t < 0 then -2 else tI TY t) else -1) else -1
def cAnM (Ln C : Nat → Int32) (sz t i : Int) : Int := if (0 ≤ t ∧ t < sz) ∧ 0 ≤ i ∧ i < tI Ln t then tI C (40 * t + i) else -1
theorem dr_step {P Pv : Nat → Int32} {i k : Int} (hi : 0 ≤ i) (hk : 4 * i ≤ k) (h1 : ∀ j, 0 ≤ j → j < k → tI Pv j = if j < 4 * i then tI P j else tI P (j + 4)) (h2 : ∀ j, k ≤ j → tI Pv j = tI P j) : (∀ j, 0 ≤ j → j < k + 1 → tI (fu Pv k (tI Pv (k + 4))) j = if j < 4 * i then tI P j else tI P (j + 4)) ∧ (∀ j, k + 1 ≤ j → tI (fu Pv k (tI Pv (k + 4))) j = tI P j) := by
  constructor
  · intro j j0 j1
    by_cases e : j = k
    · subst e
      rw [fu_eq (tI_rg _ _), if_neg (by omega), h2 _ (by omega)]
    · rw [fu_ne (by omega) j0 e]
      exact h1 j j0 (by omega)
  · intro j j1
    rw [fu_ne (by omega) (by omega) (by omega)]
    exact h2 j (by omega)
theorem dr_end {P Pv : Nat → Int32} {i n k : Int} (hi : 0 ≤ i ∧ i < n) (hk : 4 * i ≤ k) (hk2 : k = 4 * (n - 1)) (h1 : ∀ j, 0 ≤ j → j < k → tI Pv j = if j < 4 * i then tI P j else tI P (j + 4)) : lst (qdAt Pv) (n - 1) = (lst (qdAt P) n).eraseIdx i.toNat := by
  refine lst_erase hi.1 hi.2 ?_ ?_
  · intro a a0 a1
    unfold qdAt
    rw [h1 (a * 4) (by omega) (by omega), h1 (a * 4 + 1) (by omega) (by omega), h1 (a * 4 + 2) (by omega) (by omega), h1 (a * 4 + 3) (by omega) (by omega), if_pos (by omega), if_pos (by omega), if_pos (by omega), if_pos (by omega)]
  · intro a a0 a1
    unfold qdAt
    rw [h1 (a * 4) (by omega) (by omega), h1 (a * 4 + 1) (by omega) (by omega), h1 (a * 4 + 2) (by omega) (by omega), h1 (a * 4 + 3) (by omega) (by omega), if_neg (by omega), if_neg (by omega), if_neg (by omega), if_neg (by omega)]
    rw [show a * 4 + 4 = (a + 1) * 4 by omega, show a * 4 + 1 + 4 = (a + 1) * 4 + 1 by omega, show a * 4 + 2 + 4 = (a + 1) * 4 + 2 by omega, show a * 4 + 3 + 4 = (a + 1) * 4 + 3 by omega]
theorem lst_cat {f g : Nat → Int32} {n k : Int} (hn : 0 ≤ n) (hk : 0 ≤ k) (h1 : ∀ j, 0 ≤ j → j < n → tI g j = tI f j) (X : List Int) (h2 : lst (fun j => tI g (n + j)) k = X) : lst (tI g) (n + k) = lst (tI f) n ++ X := by
  subst h2
  apply List.ext_getElem?
  intro x
  by_cases c : (x : Int) < n + k
  · have e1 := lst_get (g := tI g) (n := n + k) (i := (x : Int)) (by omega) c
    rw [Int.toNat_natCast] at e1
    rw [e1]
    by_cases c2 : (x : Int) < n
    · have e2 := lst_get (g := tI f) (n := n) (i := (x : Int)) (by omega) c2
      rw [Int.toNat_natCast] at e2
      rw [List.getElem?_append_left (by rw [lst_length]; omega), e2, h1 _ (by omega) c2]
    · have e3 := lst_get (g := fun j => tI g (n + j)) (n := k) (i := (x : Int) - n) (by omega) (by omega)
      rw [List.getElem?_append_right (by rw [lst_length]; omega), lst_length, show x - n.toNat = ((x : Int) - n).toNat by omega, e3]
      rw [show n + ((x : Int) - n) = x by omega]
  · rw [List.getElem?_eq_none (by rw [lst_length]; omega), List.getElem?_eq_none (by rw [List.length_append, lst_length, lst_length]; omega)]
/-! the reference's printing -/
def mn3 (d : Int) : Int := if d < 3000 then d else 3000
def PwM (d2 : Int) (D2 : Nat → Int32) (d : Int) (D : Nat → Int32) (X : List Int) : Prop := d2 = d + X.length ∧ lst (tI D2) (mn3 d2) = (lst (tI D) (mn3 d) ++ X).take 3000
theorem mn3_rg {d : Int} (h : 0 ≤ d) : 0 ≤ mn3 d ∧ mn3 d ≤ 3000 ∧ mn3 d ≤ d := by
  unfold mn3
  split <;> omega
theorem PwM_nil {d : Int} {D : Nat → Int32} (h : 0 ≤ d) : PwM d D d D [] := by
  refine ⟨by simp, ?_⟩
  have := mn3_rg h
  rw [List.append_nil, List.take_of_length_le]
  rw [lst_length]; omega
theorem PwM_one {d x : Int} {D : Nat → Int32} (h : 0 ≤ d) (h1 : d < 3000) (hx : -2147483648 ≤ x ∧ x < 2147483648) : PwM (d + 1) (fu D d x) d D [x] := by
  refine ⟨by simp, ?_⟩
  have e1 : mn3 d = d := if_pos h1
  have e2 : mn3 (d + 1) = d + 1 := by unfold mn3; split <;> omega
  rw [e1, e2, lst_push D h hx, List.take_of_length_le]
  rw [List.length_append, lst_length]
  simp only [List.length_cons, List.length_nil]; omega
theorem PwM_full {d x : Int} {D : Nat → Int32} (h1 : 3000 ≤ d) : PwM (d + 1) D d D [x] := by
  refine ⟨by simp, ?_⟩
  have e1 : mn3 d = 3000 := if_neg (by omega)
  have e2 : mn3 (d + 1) = 3000 := if_neg (by omega)
  rw [e1, e2, List.take_append_of_le_length (by rw [lst_length]; omega), List.take_of_length_le]
  rw [lst_length]; omega
theorem PwM_trans {d3 d2 d : Int} {D3 D2 D : Nat → Int32} {X Y : List Int} (h : 0 ≤ d) (h1 : PwM d2 D2 d D X) (h2 : PwM d3 D3 d2 D2 Y) : PwM d3 D3 d D (X ++ Y) := by
  obtain ⟨a1, a2⟩ := h1
  obtain ⟨b1, b2⟩ := h2
  refine ⟨by rw [b1, a1, List.length_append]; omega, ?_⟩
  rw [b2, a2, ← List.append_assoc, List.take_append, List.take_take, List.take_append (l₁ := lst (tI D) (mn3 d) ++ X), List.length_take, List.length_append]
  rw [show 3000 - min 3000 ((lst (tI D) (mn3 d)).length + X.length) = 3000 - ((lst (tI D) (mn3 d)).length + X.length) by omega, Nat.min_self]
theorem PwM_cast {d2 d : Int} {D2 D : Nat → Int32} {X Y : List Int} (h : PwM d2 D2 d D X) (e : X = Y) : PwM d2 D2 d D Y := e ▸ h
theorem PwM_fit {d2 : Int} {D2 D : Nat → Int32} {X : List Int} (h : PwM d2 D2 0 D X) (hx : d2 ≤ 3000) : X.length ≤ 3000 ∧ d2 = X.length ∧ lst (tI D2) d2 = X := by
  obtain ⟨a, b⟩ := h
  have e0 : mn3 0 = 0 := rfl
  have e1 : mn3 d2 = d2 := by unfold mn3; split <;> omega
  rw [e0, e1, lst_neg (g := tI D) (Int.le_refl 0), List.nil_append, List.take_of_length_le (by omega)] at b
  exact ⟨by omega, by omega, b⟩
theorem ex_appM {v k : Int} {X E : List Int} (h0 : 0 ≤ k) (hX : X ++ ex v (k + 1).toNat = E) : (X ++ [hc (hx v (4 * k))]) ++ ex v (k + (-1) + 1).toNat = E := by
  rw [show (k + (-1) + 1).toNat = k.toNat by omega, ← hX, show (k + 1).toNat = k.toNat + 1 by omega, ex, Int.toNat_of_nonneg h0, List.append_assoc]
  rfl
theorem ex_len (c : Int) : ∀ k, (ex c k).length = k
  | 0 => rfl
  | k + 1 => by rw [ex, List.length_cons, ex_len c k]
theorem ct_q {b c : Int} (hb : b = 1) (h : c = 34 ∨ c = 92) : ct b c = [92, c] := by
  have e : sgl c = c := by rcases h with rfl | rfl <;> decide
  unfold ct
  rw [if_pos ⟨hb, by rw [e]; omega⟩, e]
theorem ct_raw {b c : Int} (h : ¬ (b = 1 ∧ (c = 34 ∨ c = 92))) (h2 : 32 ≤ c ∧ c ≤ 126) : ct b c = [c] := by
  unfold ct
  rw [if_neg, if_pos h2]
  rintro ⟨h3, h4⟩
  apply h4
  unfold sgl
  rw [if_neg (by omega), if_neg (by omega), if_neg (by omega), if_neg (by omega), if_neg (by omega), if_neg (by omega), if_neg (by omega)]
theorem sgl_ltr {c : Int} (h : ¬ (32 ≤ c ∧ c ≤ 126)) : sgl c = ltr c := by
  unfold sgl ltr
  repeat' split
  all_goals first | rfl | omega
theorem ct_let {b c : Int} (hb : b = 1) (h : ¬ (32 ≤ c ∧ c ≤ 126)) (h2 : 0 ≤ ltr c) : ct b c = [92, ltr c] := by
  unfold ct
  rw [sgl_ltr h, if_pos ⟨hb, by omega⟩]
theorem ltr_rg (c : Int) : -1 ≤ ltr c ∧ ltr c ≤ 116 := by
  unfold ltr
  repeat' split
  all_goals omega
theorem ct_esc {b c : Int} (h : ¬ (32 ≤ c ∧ c ≤ 126)) (h2 : b ≠ 1 ∨ ltr c < 0) : ct b c = esc c := by
  have := ltr_rg c
  unfold ct
  rw [sgl_ltr h, if_neg (by rintro ⟨h3, h4⟩; omega), if_neg h]
theorem esc_len (c : Int) : (esc c).length ≤ 10 := by
  unfold esc
  split <;> simp [ex_len]
theorem ct_len (b c : Int) : (ct b c).length ≤ 10 := by
  unfold ct
  split
  · simp
  · split
    · simp
    · exact esc_len c
theorem cts_len (b : Int) : ∀ l : List Int, (cts b l).length ≤ 10 * l.length
  | [] => by simp [cts]
  | c :: l => by
    have h1 := ct_len b c
    have h2 := cts_len b l
    rw [cts, List.length_append, List.length_cons]
    omega
theorem seg_len (f : Nat → Int32) (a n : Int) : (seg f a n).length = n.toNat := lst_length _ _
theorem cts_step0 {C : Nat → Int32} {t i b : Int} (hi : 0 ≤ i) : cts b (seg C (t * 40) i) ++ ct b (tI C (40 * t + i)) = cts b (seg C (t * 40) (i + 1)) := by
  rw [seg_succ hi, cts_app, Int.mul_comm t 40]
  simp [cts]
/-- what a term keeps for its printing -/
def wfT (K TL TY : Nat → Int32) (n t : Int) : Prop := (tI K t = 0 ∨ tI K t = 1 ∨ tI K t = 2) ∧ (tI K t ≠ 2 → tI TL t = 0 ∧ tI TY t = -1) ∧ (0 < tI TL t → tI TY t = -1) ∧ (tI TY t = -1 ∨ (0 ≤ tI TY t ∧ tI TY t < n ∧ tI K (tI TY t) = 0))
theorem tcd_len (v : Tm) (h : v.2.1.length ≤ 40) : (tcd v).length ≤ 402 := by
  have h1 := cts_len 1 v.2.1
  have h0 := cts_len 0 v.2.1
  unfold tcd
  split <;> simp only [List.length_cons, List.length_append, List.length_nil] <;> omega
theorem num_len (t : Int) : (num t).length ≤ 3 := by
  unfold num
  split <;> split <;> simp
/-- the parts of a quad, as printed so far -/
def pqs (g : Int → Tm) (n : Int) (P : Nat → Int32) (i k : Int) : List Int := (lst (fun j => tx g n (tI P (4 * i + j))) k).flatten
theorem pqs_0 {g : Int → Tm} {n i : Int} {P : Nat → Int32} : pqs g n P i 0 = [] := by
  unfold pqs
  rw [lst_neg (Int.le_refl 0)]
  rfl
theorem pqs_step {g : Int → Tm} {n i k : Int} {P : Nat → Int32} (h : 0 ≤ k) : pqs g n P i k ++ tx g n (tI P (4 * i + k)) = pqs g n P i (k + 1) := by
  unfold pqs
  rw [lst_succ _ h]
  simp
theorem pqs_4 {g : Int → Tm} {n i : Int} {P : Nat → Int32} : pqs g n P i 4 ++ [46, 10] = qln g n (qdAt P i) := by
  have e : lst (fun j => tx g n (tI P (4 * i + j))) 4 = [tx g n (tI P (4 * i + 0)), tx g n (tI P (4 * i + 1)), tx g n (tI P (4 * i + 2)), tx g n (tI P (4 * i + 3))] := rfl
  unfold pqs qln qdAt
  rw [e, Int.mul_comm i 4]
  simp
theorem tx_neg {g : Int → Tm} {n t : Int} (h : t < 0) : tx g n t = [] := if_neg (by omega)
theorem tx_len {g : Int → Tm} {n t : Int} (h : ∀ j, 0 ≤ j → j < n → (g j).2.1.length ≤ 40 ∧ (g j).2.2.1.length ≤ 16) : (tx g n t).length ≤ 830 := by
  unfold tx
  by_cases ht : 0 ≤ t ∧ t < n
  · rw [if_pos ht]
    have h1 := h t ht.1 ht.2
    have h2 := tcd_len (g t) h1.1
    have h3 := num_len t
    have h4 : (tgp (g t)).length ≤ 17 := by unfold tgp; split <;> simp; omega
    have h5 : (tyq g n (g t).2.2.2).length ≤ 404 := by
      unfold tyq
      by_cases hy : 0 ≤ (g t).2.2.2 ∧ (g t).2.2.2 < n
      · rw [if_pos hy]
        have := tcd_len (g (g t).2.2.2) (h _ hy.1 hy.2).1
        simp only [List.length_cons]; omega
      · rw [if_neg hy]; simp
    have h6 : (if (g t).1 = 1 then lbl t else tcd (g t)).length ≤ 402 := by
      split
      · unfold lbl; simp only [List.length_cons]; omega
      · exact h2
    simp only [List.length_append, List.length_cons, List.length_nil]
    omega
  · rw [if_neg ht]; simp
theorem pqs_len {g : Int → Tm} {n i : Int} {P : Nat → Int32} (h : ∀ j, 0 ≤ j → j < n → (g j).2.1.length ≤ 40 ∧ (g j).2.2.1.length ≤ 16) : ∀ k : Nat, (pqs g n P i k).length ≤ 830 * k
  | 0 => by rw [show ((0 : Nat) : Int) = 0 from rfl, pqs_0]; simp
  | k + 1 => by
    have h1 := pqs_len (i := i) (P := P) h k
    have h2 := tx_len (t := tI P (4 * i + k)) h
    rw [show (((k + 1 : Nat)) : Int) = (k : Int) + 1 by omega, ← pqs_step (by omega), List.length_append]
    omega
theorem qln_len {g : Int → Tm} {n i : Int} {P : Nat → Int32} (h : ∀ j, 0 ≤ j → j < n → (g j).2.1.length ≤ 40 ∧ (g j).2.2.1.length ≤ 16) : (qln g n (qdAt P i)).length ≤ 3322 := by
  have := pqs_len (i := i) (P := P) h 4
  rw [← pqs_4, List.length_append]
  simp only [List.length_cons, List.length_nil]
  have e : ((4 : Nat) : Int) = 4 := rfl
  rw [e] at this
  omega
/-! picking the least, again and again -/
theorem llt_self : ∀ l : List Int, llt l l = false
  | [] => rfl
  | a :: l => by rw [llt_eq rfl]; exact llt_self l
def rst_ (TD : Nat → Int32) (m : Int) : List Int := (lst (fun i => i) m).filter (fun j => decide (tI TD j = 0))
theorem id_nodup (m : Int) : (lst (fun i => i) m).Nodup := by
  unfold lst
  rw [List.nodup_iff_pairwise_ne, List.pairwise_map]
  refine List.Pairwise.imp ?_ List.pairwise_lt_range
  intro a b h
  show (a : Int) ≠ (b : Int)
  omega
theorem of_mem_id {m x : Int} (h : x ∈ lst (fun i => i) m) : 0 ≤ x ∧ x < m := by
  obtain ⟨j, j0, j1, e⟩ := of_mem_lst h
  have e : x = j := e
  omega
theorem mem_rst {TD : Nat → Int32} {m j : Int} : j ∈ rst_ TD m ↔ (0 ≤ j ∧ j < m) ∧ tI TD j = 0 := by
  unfold rst_
  rw [List.mem_filter]
  constructor
  · rintro ⟨h1, h2⟩
    exact ⟨of_mem_id h1, of_decide_eq_true h2⟩
  · rintro ⟨h1, h2⟩
    exact ⟨mem_lst (g := fun i => i) h1.1 h1.2, decide_eq_true h2⟩
theorem rst_pick {TD : Nat → Int32} {m b : Int} (hb : 0 ≤ b ∧ b < m) (h : tI TD b = 0) : (rst_ TD m).Perm (b :: rst_ (fu TD b 1) m) := by
  have hm : b ∈ rst_ TD m := mem_rst.mpr ⟨hb, h⟩
  refine (List.perm_cons_erase hm).trans (List.Perm.cons _ (List.Perm.of_eq ?_))
  have hn : (rst_ TD m).Nodup := (id_nodup m).filter _
  rw [hn.erase_eq_filter]
  unfold rst_
  rw [List.filter_filter]
  apply List.filter_congr
  intro x hj
  have x0 := (of_mem_id hj).1
  by_cases e : x = b
  · subst e
    rw [fu_eq (by omega)]
    simp
  · rw [fu_ne hb.1 x0 e]
    simp [e]
/-- what stands while lines are picked: c those picked -/
def Sel (L : Int → List Int) (m form : Int) (TD : Nat → Int32) (c : List Int) : Prop := (c ++ rst_ TD m).Perm (lst (fun i => i) m) ∧ (form = 0 → c = lst (fun i => i) (c.length : Int)) ∧ (form = 1 → c.Pairwise (Rle L) ∧ ∀ x ∈ c, ∀ j ∈ rst_ TD m, Rle L x j)
/-- the best so far among those before i -/
def Bst (L : Int → List Int) (m form : Int) (TD : Nat → Int32) (i b : Int) : Prop := (b = -1 ∧ ∀ j, 0 ≤ j → j < i → tI TD j ≠ 0) ∨ ((0 ≤ b ∧ b < i) ∧ tI TD b = 0 ∧ ∀ j, 0 ≤ j → j < i → tI TD j = 0 → (form = 0 → b ≤ j) ∧ (form = 1 → Rle L b j))
theorem Sel_0 {L : Int → List Int} {m form : Int} {TD : Nat → Int32} (h : ∀ j, 0 ≤ j → j < m → tI TD j = 0) : Sel L m form TD [] := by
  refine ⟨?_, fun _ => ?_, fun _ => ⟨List.Pairwise.nil, fun x hx => by simp at hx⟩⟩
  · rw [List.nil_append]
    unfold rst_
    rw [List.filter_eq_self.mpr]
    intro a ha
    exact decide_eq_true (h a (of_mem_id ha).1 (of_mem_id ha).2)
  · rw [List.length_nil]; rfl
theorem Bst_0 {L : Int → List Int} {m form : Int} {TD : Nat → Int32} : Bst L m form TD 0 (-1) := Or.inl ⟨rfl, fun j h0 h1 => by omega⟩
theorem Bst_told {L : Int → List Int} {m form i b : Int} {TD : Nat → Int32} (h : Bst L m form TD i b) (ht : tI TD i ≠ 0) : Bst L m form TD (i + 1) b := by
  rcases h with ⟨h1, h2⟩ | ⟨h1, h2, h3⟩
  · refine Or.inl ⟨h1, fun j j0 j1 => ?_⟩
    by_cases e : j = i
    · rw [e]; exact ht
    · exact h2 j j0 (by omega)
  · refine Or.inr ⟨by omega, h2, fun j j0 j1 j2 => ?_⟩
    by_cases e : j = i
    · rw [e] at j2; exact absurd j2 ht
    · exact h3 j j0 (by omega) j2
theorem Bst_first {L : Int → List Int} {m form i b : Int} {TD : Nat → Int32} (h : Bst L m form TD i b) (hb : b < 0) (hi : 0 ≤ i) (ht : tI TD i = 0) (hk : okl (L i)) : Bst L m form TD (i + 1) i := by
  rcases h with ⟨h1, h2⟩ | ⟨h1, h2, h3⟩
  · refine Or.inr ⟨by omega, ht, fun j j0 j1 j2 => ?_⟩
    by_cases e : j = i
    · rw [e]
      exact ⟨fun _ => Int.le_refl _, fun _ => ⟨hk, hk, llt_self _⟩⟩
    · exact absurd j2 (h2 j j0 (by omega))
  · omega
theorem Bst_keep0 {L : Int → List Int} {m form i b : Int} {TD : Nat → Int32} (h : Bst L m form TD i b) (hb : 0 ≤ b) (hf : form ≠ 1) : Bst L m form TD (i + 1) b := by
  rcases h with ⟨h1, h2⟩ | ⟨h1, h2, h3⟩
  · omega
  · refine Or.inr ⟨by omega, h2, fun j j0 j1 j2 => ?_⟩
    by_cases e : j = i
    · exact ⟨fun _ => by omega, fun q => absurd q hf⟩
    · exact h3 j j0 (by omega) j2
theorem Bst_keep1 {L : Int → List Int} {m form i b : Int} {TD : Nat → Int32} (h : Bst L m form TD i b) (hb : 0 ≤ b) (hr : Rle L b i) : Bst L m form TD (i + 1) b := by
  rcases h with ⟨h1, h2⟩ | ⟨h1, h2, h3⟩
  · omega
  · refine Or.inr ⟨by omega, h2, fun j j0 j1 j2 => ?_⟩
    by_cases e : j = i
    · rw [e]; exact ⟨fun _ => by omega, fun _ => hr⟩
    · exact h3 j j0 (by omega) j2
theorem Bst_new {L : Int → List Int} {m form i b : Int} {TD : Nat → Int32} (h : Bst L m form TD i b) (hb : 0 ≤ b) (hi : 0 ≤ i) (ht : tI TD i = 0) (hf : form = 1) (hr : Rle L i b) : Bst L m form TD (i + 1) i := by
  rcases h with ⟨h1, h2⟩ | ⟨h1, h2, h3⟩
  · omega
  · refine Or.inr ⟨by omega, ht, fun j j0 j1 j2 => ?_⟩
    by_cases e : j = i
    · rw [e]
      exact ⟨fun _ => Int.le_refl _, fun _ => ⟨hr.1, hr.1, llt_self _⟩⟩
    · exact ⟨fun q => by omega, fun q => Rle_tr hr ((h3 j j0 (by omega) j2).2 q)⟩
theorem Sel_ex {L : Int → List Int} {m form : Int} {TD : Nat → Int32} {c : List Int} (h : Sel L m form TD c) (hl : (c.length : Int) < m) : ∃ j, (0 ≤ j ∧ j < m) ∧ tI TD j = 0 := by
  have h1 := h.1.length_eq
  rw [List.length_append, lst_length] at h1
  have h2 : rst_ TD m ≠ [] := by
    intro e
    rw [e, List.length_nil] at h1
    omega
  obtain ⟨j, l, e⟩ := List.exists_cons_of_ne_nil h2
  exact ⟨j, mem_rst.mp (by rw [e]; exact List.mem_cons_self)⟩
theorem Sel_step {L : Int → List Int} {m form b : Int} {TD : Nat → Int32} {c : List Int} (h : Sel L m form TD c) (hl : (c.length : Int) < m) (hb : Bst L m form TD m b) : (0 ≤ b ∧ b < m) ∧ Sel L m form (fu TD b 1) (c ++ [b]) := by
  obtain ⟨j0, hj0, hj1⟩ := Sel_ex h hl
  rcases hb with ⟨h1, h2⟩ | ⟨h1, h2, h3⟩
  · exact absurd hj1 (h2 j0 hj0.1 hj0.2)
  · refine ⟨h1, ?_⟩
    have hp := rst_pick h1 h2
    have hsub : ∀ j ∈ rst_ (fu TD b 1) m, j ∈ rst_ TD m := fun j hj => hp.symm.subset (List.mem_cons_of_mem _ hj)
    refine ⟨?_, fun q => ?_, fun q => ⟨?_, ?_⟩⟩
    · rw [List.append_assoc]
      exact (hp.symm.append_left c).trans h.1
    · have e := h.2.1 q
      have hbj : b = c.length := by
        have hmem : (c.length : Int) ∈ c ++ rst_ TD m := h.1.symm.subset (mem_lst (g := fun i => i) (by omega) hl)
        have hnc : (c.length : Int) ∉ c := by
          intro hc
          have := of_mem_id (m := (c.length : Int)) (x := (c.length : Int)) (by rw [← e]; exact hc)
          omega
        have hr := (List.mem_append.mp hmem).resolve_left hnc
        have a1 := (h3 _ (mem_rst.mp hr).1.1 (mem_rst.mp hr).1.2 (mem_rst.mp hr).2).1 q
        have hbr : b ∈ rst_ TD m := mem_rst.mpr ⟨h1, h2⟩
        have hbc : b ∉ c := by
          intro hc
          have hd : (c ++ rst_ TD m).Nodup := (h.1.nodup_iff).mpr (id_nodup m)
          exact (List.nodup_append.mp hd).2.2 b hc b hbr rfl
        by_cases hlt : b < (c.length : Int)
        · exfalso
          apply hbc
          rw [e]
          exact mem_lst (g := fun i => i) h1.1 hlt
        · omega
      rw [List.length_append, List.length_cons, List.length_nil, show ((c.length + (0 + 1) : Nat) : Int) = (c.length : Int) + 1 by omega, lst_succ _ (by omega), ← e, hbj]
    · rw [List.pairwise_append]
      refine ⟨(h.2.2 q).1, List.pairwise_singleton _ _, fun x hx y hy => ?_⟩
      rw [List.mem_singleton.mp hy]
      exact (h.2.2 q).2 x hx b (mem_rst.mpr ⟨h1, h2⟩)
    · intro x hx j hj
      rcases List.mem_append.mp hx with hx | hx
      · exact (h.2.2 q).2 x hx j (hsub j hj)
      · rw [List.mem_singleton.mp hx]
        have := mem_rst.mp (hsub j hj)
        exact (h3 j this.1.1 this.1.2 this.2).2 q
theorem Sel_end {L : Int → List Int} {m form : Int} {TD : Nat → Int32} {c : List Int} (h : Sel L m form TD c) (hl : (c.length : Int) = m) : prO L m form ((c.map L).flatten) := by
  have h1 := h.1.length_eq
  rw [List.length_append, lst_length] at h1
  have h2 : rst_ TD m = [] := List.eq_nil_of_length_eq_zero (by omega)
  have h3 := h.1
  rw [h2, List.append_nil] at h3
  exact ⟨c, h3, fun q => by rw [← hl]; exact h.2.1 q, fun q => (h.2.2 q).1, rfl⟩
theorem okl_lt {l : List Int} {n : Int} (h0 : 0 ≤ n) (h : okl (l.drop n.toNat)) : n < l.length := by
  by_cases c : n < l.length
  · exact c
  · rw [List.drop_eq_nil_of_le (by omega)] at h
    exact h.elim
theorem Lp_len (f S : Nat → Int32) (a : Int) : (Lp f S a).length = (tI S (a + 1) - tI S a).toNat := by
  unfold Lp
  exact seg_len _ _ _
theorem Lp_cons {f S : Nat → Int32} {a n : Int} (h0 : 0 ≤ n) (h1 : n < tI S (a + 1) - tI S a) : (Lp f S a).drop n.toNat = tI f (tI S a + n) :: (Lp f S a).drop (n + 1).toNat := by
  unfold Lp seg
  exact lst_drop (fun i => tI f (tI S a + i)) h0 h1
theorem okl_tail {x : Int} {l : List Int} (h : okl (x :: l)) (hx : x ≠ 10) : okl l := by
  rcases h with h | h
  · exact absurd h.1 hx
  · exact h.2
theorem okl_10 {x : Int} {l : List Int} (h : okl (x :: l)) (hx : x = 10) : l = [] := by
  rcases h with h | h
  · exact h.2
  · exact absurd hx h.1
/-- a step of comparing two lines -/
def Cmp (f S : Nat → Int32) (a b n : Int) : Prop := 0 ≤ n ∧ okl ((Lp f S a).drop n.toNat) ∧ okl ((Lp f S b).drop n.toNat) ∧ llt ((Lp f S a).drop n.toNat) ((Lp f S b).drop n.toNat) = llt (Lp f S a) (Lp f S b)
theorem Cmp_0 {f S : Nat → Int32} {a b : Int} (ha : okl (Lp f S a)) (hb : okl (Lp f S b)) : Cmp f S a b 0 := ⟨Int.le_refl 0, ha, hb, rfl⟩
theorem Cmp_lt {f S : Nat → Int32} {a b n : Int} (h : Cmp f S a b n) : n < tI S (a + 1) - tI S a ∧ n < tI S (b + 1) - tI S b := by
  have h1 := okl_lt h.1 h.2.1
  have h2 := okl_lt h.1 h.2.2.1
  rw [Lp_len] at h1 h2
  have := h.1
  omega
theorem Cmp_step {f S : Nat → Int32} {a b n : Int} (h : Cmp f S a b n) (e : tI f (tI S a + n) = tI f (tI S b + n)) (h10 : tI f (tI S a + n) ≠ 10) : Cmp f S a b (n + 1) := by
  have hl := Cmp_lt h
  obtain ⟨h0, h1, h2, h3⟩ := h
  rw [Lp_cons h0 hl.1] at h1 h3
  rw [Lp_cons h0 hl.2] at h2 h3
  rw [llt_eq e] at h3
  exact ⟨by omega, okl_tail h1 h10, okl_tail h2 (by omega), h3⟩
theorem Cmp_end {f S : Nat → Int32} {a b n : Int} (h : Cmp f S a b n) (e : tI f (tI S a + n) ≠ tI f (tI S b + n) ∨ tI f (tI S a + n) = 10) : llt (Lp f S a) (Lp f S b) = decide (tI f (tI S a + n) < tI f (tI S b + n)) := by
  have hl := Cmp_lt h
  obtain ⟨h0, h1, h2, h3⟩ := h
  rw [Lp_cons h0 hl.1] at h1 h3
  rw [Lp_cons h0 hl.2] at h2 h3
  rw [← h3]
  by_cases q : tI f (tI S a + n) = tI f (tI S b + n)
  · have q10 : tI f (tI S a + n) = 10 := by omega
    rw [llt_eq q, okl_10 h1 q10]
    exact (decide_eq_false (by omega)).symm
  · exact llt_ne q
theorem fl_le {L : Int → List Int} {B : Nat} (h : ∀ i, (L i).length ≤ B) : ∀ k : Nat, (lst L k).flatten.length ≤ B * k
  | 0 => by rw [show ((0 : Nat) : Int) = 0 from rfl, lst_neg (Int.le_refl 0)]; simp
  | k + 1 => by
    have h1 := fl_le h k
    have h2 := h k
    rw [show (((k + 1 : Nat)) : Int) = (k : Int) + 1 by omega, ← fl_step' (by omega), List.length_append, Nat.mul_add]
    omega
theorem fl_leI {L : Int → List Int} (h : ∀ i, (L i).length ≤ 3322) {k : Int} (h0 : 0 ≤ k) : ((lst L k).flatten.length : Int) ≤ 3322 * k := by
  have := fl_le h k.toNat
  rw [Int.toNat_of_nonneg h0] at this
  omega
/-- the starts, as the reference writes them -/
def FilM (S : Nat → Int32) (L : Int → List Int) (i : Int) : Prop := ∀ j, 0 ≤ j → j < i → tI S j = ((lst L j).flatten.length : Int)
theorem filM_step {S : Nat → Int32} {L : Int → List Int} {i a : Int} (hi : 0 ≤ i) (h : FilM S L i) (ha : a = ((lst L i).flatten.length : Int)) (hr : a < 2147483648) : FilM (fu S i a) L (i + 1) := by
  intro j j0 j1
  by_cases e : j = i
  · subst e; rw [fu_eq (by omega)]; exact ha
  · rw [fu_ne hi j0 e]; exact h j j0 (by omega)
theorem filM_fil {S : Nat → Int32} {L : Int → List Int} {i : Int} (h : FilM S L (i + 1)) : Fil S L i := fun _ j j0 j1 => h j j0 (by omega)
theorem told_step {TD : Nat → Int32} {i : Int} (hi : 0 ≤ i) (h : ∀ j, 0 ≤ j → j < i → tI TD j = 0) : ∀ j, 0 ≤ j → j < i + 1 → tI (fu TD i 0) j = 0 := by
  intro j j0 j1
  by_cases e : j = i
  · subst e; exact fu_eq (by omega)
  · rw [fu_ne hi j0 e]; exact h j j0 (by omega)
theorem cpM_step {f g : Nat → Int32} {s k om : Int} {X : List Int} (h : s ≤ k) (ho : 0 ≤ om) (hX : lst (tI g) om = X ++ seg f s (k - s)) : lst (tI (fu g om (tI f k))) (om + 1) = X ++ seg f s (k + 1 - s) := by
  rw [lst_push g ho (tI_rg _ _), hX]
  exact cp_step h rfl
theorem flc {L : Int → List Int} {c : List Int} {b : Int} : (c.map L).flatten ++ L b = ((c ++ [b]).map L).flatten := by simp
theorem sub_len {L : Int → List Int} {m form : Int} {TD : Nat → Int32} {c : List Int} (h : Sel L m form TD c) : ((c.map L).flatten.length) ≤ (lst L m).flatten.length := by
  have h1 := List.Perm.sum_nat ((h.1.map L).map List.length)
  rw [lst_map] at h1
  rw [List.length_flatten, List.length_flatten, ← h1, List.map_append, List.map_append, List.sum_append]
  omega
theorem pqs_lenI {g : Int → Tm} {n i k : Int} {P : Nat → Int32} (h : ∀ j, 0 ≤ j → j < n → (g j).2.1.length ≤ 40 ∧ (g j).2.2.1.length ≤ 16) (hk : 0 ≤ k ∧ k ≤ 4) : (pqs g n P i k).length ≤ 3320 := by
  have h1 := pqs_len (i := i) (P := P) h k.toNat
  rw [Int.toNat_of_nonneg hk.1] at h1
  omega
theorem seg_nil {f : Nat → Int32} {a n : Int} (h : n ≤ 0) : seg f a n = [] := lst_neg h
section TXM
variable {K Ln C TL TG TY : Nat → Int32} {n t : Int}
theorem txM_node (ht : 0 ≤ t ∧ t < n) (hk : tI K t = 0) (hl : tI TL t = 0) (hy : tI TY t = -1) : ([] ++ (60 :: (cts 0 (seg C (t * 40) (tI Ln t)) ++ [62]))) ++ [32] = tx (tmAt K Ln C TL TG TY) n t := by
  unfold tx tgp tyq tcd tmAt
  rw [if_pos ht]
  simp only []
  rw [hk, hl, hy, if_neg (by decide), if_neg (by decide), if_pos (seg_nil (Int.le_refl 0)), if_neg (by omega)]
  simp
theorem txM_lab (ht : 0 ≤ t ∧ t < n) (hk : tI K t = 1) (hl : tI TL t = 0) (hy : tI TY t = -1) : ((((([] ++ [95]) ++ [58]) ++ [98]) ++ num t) ++ [32]) = tx (tmAt K Ln C TL TG TY) n t := by
  unfold tx tgp tyq lbl tmAt
  rw [if_pos ht]
  simp only []
  rw [hk, hl, hy, if_pos rfl, if_pos (seg_nil (Int.le_refl 0)), if_neg (by omega)]
  simp
theorem txM_tag (ht : 0 ≤ t ∧ t < n) (hk : tI K t = 2) (hl : 0 < tI TL t) (hy : tI TY t = -1) {k : Int} (e : k = tI TL t) : (34 :: (cts 1 (seg C (t * 40) (tI Ln t)) ++ [34, 64] ++ seg TG (t * 16) k)) ++ [32] = tx (tmAt K Ln C TL TG TY) n t := by
  subst e
  unfold tx tgp tyq tcd tmAt
  rw [if_pos ht]
  simp only []
  rw [hk, hy, if_neg (by decide), if_pos rfl, if_neg (seg_ne hl), if_neg (by omega)]
  simp
theorem txM_ty (ht : 0 ≤ t ∧ t < n) (hk : tI K t = 2) (hl : tI TL t ≤ 0) (hy : 0 ≤ tI TY t ∧ tI TY t < n ∧ tI K (tI TY t) = 0) : (((((([] ++ [34]) ++ cts 1 (seg C (t * 40) (tI Ln t))) ++ [34]) ++ [94]) ++ [94]) ++ (60 :: (cts 0 (seg C (tI TY t * 40) (tI Ln (tI TY t))) ++ [62]))) ++ [32] = tx (tmAt K Ln C TL TG TY) n t := by
  unfold tx tgp tyq tcd tmAt
  rw [if_pos ht]
  simp only []
  rw [hk, hy.2.2, if_neg (by decide), if_pos rfl, if_pos (seg_nil hl), if_pos ⟨hy.1, hy.2.1⟩, if_neg (by decide)]
  simp
theorem txM_pl (ht : 0 ≤ t ∧ t < n) (hk : tI K t = 2) (hl : tI TL t ≤ 0) (hy : tI TY t < 0) : ((([] ++ [34]) ++ cts 1 (seg C (t * 40) (tI Ln t))) ++ [34]) ++ [32] = tx (tmAt K Ln C TL TG TY) n t := by
  unfold tx tgp tyq tcd tmAt
  rw [if_pos ht]
  simp only []
  rw [hk, if_neg (by decide), if_pos rfl, if_pos (seg_nil hl), if_neg (by omega)]
  simp
end TXM
