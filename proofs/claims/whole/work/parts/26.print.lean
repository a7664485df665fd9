/-! printing: pure words -/
def shI (x y : Int) : Int := (iI x >>> (iI y &&& 31)).toInt
def anI (x y : Int) : Int := (iI x &&& iI y).toInt
def hx (c s : Int) : Int := anI (shI c s) 15
def hc (d : Int) : Int := if d < 10 then 48 + d else 65 + d - 10
def ex (c : Int) : Nat → List Int
  | 0 => []
  | k + 1 => hc (hx c (4 * (k : Int))) :: ex c k
def esc (c : Int) : List Int := if c ≤ 65535 then 92 :: 117 :: ex c 4 else 92 :: 85 :: ex c 8
/-- a code as it is printed -/
def ct (b c : Int) : List Int := if b = 1 ∧ sgl c ≠ -1 then [92, sgl c] else if 32 ≤ c ∧ c ≤ 126 then [c] else esc c
def cts (b : Int) : List Int → List Int
  | [] => []
  | c :: l => ct b c ++ cts b l
def tcd (v : Tm) : List Int := if v.1 = 2 then 34 :: (cts 1 v.2.1 ++ [34]) else 60 :: (cts 0 v.2.1 ++ [62])
def num (t : Int) : List Int := (if 100 ≤ t then [48 + t / 100] else []) ++ ((if 10 ≤ t then [48 + t / 10 % 10] else []) ++ [48 + t % 10])
def lbl (t : Int) : List Int := 95 :: 58 :: 98 :: num t
def tgp (v : Tm) : List Int := if v.2.2.1 = [] then [] else 64 :: v.2.2.1
def tyq (g : Int → Tm) (sz y : Int) : List Int := if 0 ≤ y ∧ y < sz then 94 :: 94 :: tcd (g y) else []
/-- a term as it is printed -/
def tx (g : Int → Tm) (sz t : Int) : List Int := if 0 ≤ t ∧ t < sz then (if (g t).1 = 1 then lbl t else tcd (g t)) ++ (tgp (g t) ++ (tyq g sz (g t).2.2.2 ++ [32])) else []
/-- a quad's line -/
def qln (g : Int → Tm) (sz : Int) (q : Qd) : List Int := tx g sz q.1 ++ (tx g sz q.2.1 ++ (tx g sz q.2.2.1 ++ (tx g sz q.2.2.2 ++ [46, 10])))
/-- what a printing call does to the row -/
def Pw (n2 : Int) (f2 : Nat → Int32) (s2 n : Int) (f : Nat → Int32) (s : Int) (X : List Int) : Prop :=
  (0 ≤ n2 ∧ n2 ≤ 3000) ∧ lst (tI f2) n2 = (lst (tI f) n ++ X).take 3000 ∧ s2 = (if 3000 < n + X.length then 1 else s)
theorem Pw_nil {n s : Int} {f : Nat → Int32} (h : 0 ≤ n ∧ n ≤ 3000) : Pw n f s n f s [] := by
  refine ⟨h, ?_, ?_⟩
  · rw [List.append_nil, List.take_of_length_le]
    rw [lst_length]; omega
  · rw [if_neg]; simp; omega
theorem Pw_one {n s x : Int} {f : Nat → Int32} (h : 0 ≤ n ∧ n < 3000) (hx : -2147483648 ≤ x ∧ x < 2147483648) : Pw (n + 1) (fu f n x) s n f s [x] := by
  refine ⟨by omega, ?_, ?_⟩
  · rw [lst_push f h.1 hx, List.take_of_length_le]
    rw [List.length_append, lst_length]
    simp only [List.length_cons, List.length_nil]; omega
  · rw [if_neg]; simp only [List.length_cons, List.length_nil]; omega
theorem Pw_full {n s x : Int} {f : Nat → Int32} (h : 3000 ≤ n) (h2 : n ≤ 3000) : Pw n f 1 n f s [x] := by
  refine ⟨by omega, ?_, ?_⟩
  · rw [List.take_append_of_le_length (by rw [lst_length]; omega), List.take_of_length_le]
    rw [lst_length]; omega
  · rw [if_pos]; simp only [List.length_cons, List.length_nil]; omega
theorem Pw_trans {n3 s3 n2 s2 n s : Int} {f3 f2 f : Nat → Int32} {X Y : List Int} (hn : 0 ≤ n) (h1 : Pw n2 f2 s2 n f s X) (h2 : Pw n3 f3 s3 n2 f2 s2 Y) : Pw n3 f3 s3 n f s (X ++ Y) := by
  obtain ⟨a1, a2, a3⟩ := h1
  obtain ⟨b1, b2, b3⟩ := h2
  have hl : n2.toNat = min 3000 (n.toNat + X.length) := by
    have := congrArg List.length a2
    rw [lst_length, List.length_take, List.length_append, lst_length] at this
    exact this
  refine ⟨b1, ?_, ?_⟩
  · rw [b2, a2, ← List.append_assoc, List.take_append, List.take_take, List.take_append (l₁ := lst (tI f) n ++ X), List.length_take, List.length_append, lst_length]
    rw [show 3000 - min 3000 (n.toNat + X.length) = 3000 - (n.toNat + X.length) by omega, Nat.min_self]
  · rw [b3, a3, List.length_append]
    split <;> split <;> (try split) <;> omega
theorem Pw_cast {n2 s2 n s : Int} {f2 f : Nat → Int32} {X Y : List Int} (h : Pw n2 f2 s2 n f s X) (e : X = Y) : Pw n2 f2 s2 n f s Y := e ▸ h
theorem Pw_rg {n2 s2 n s : Int} {f2 f : Nat → Int32} {X : List Int} (h : Pw n2 f2 s2 n f s X) : 0 ≤ n2 ∧ n2 ≤ 3000 := h.1
theorem cts_app (b : Int) (l m : List Int) : cts b (l ++ m) = cts b l ++ cts b m := by
  induction l with
  | nil => rfl
  | cons c l ih => rw [List.cons_append, cts, cts, ih, List.append_assoc]
theorem anI_15 (x : Int) : 0 ≤ anI x 15 ∧ anI x 15 < 16 := by
  unfold anI
  have h : (iI x &&& iI 15).toBitVec.toNat ≤ 15 := by
    rw [Int32.toBitVec_and, BitVec.toNat_and]
    exact Nat.and_le_right
  rw [← Int32.toInt_toBitVec, BitVec.toInt_eq_toNat_cond]
  split <;> omega
theorem anI_255 (x : Int) : 0 ≤ anI x 255 ∧ anI x 255 < 256 := by
  unfold anI
  have h : (iI x &&& iI 255).toBitVec.toNat ≤ 255 := by
    rw [Int32.toBitVec_and, BitVec.toNat_and]
    exact Nat.and_le_right
  rw [← Int32.toInt_toBitVec, BitVec.toInt_eq_toNat_cond]
  split <;> omega
theorem hx_rg (c s : Int) : 0 ≤ hx c s ∧ hx c s < 16 := anI_15 _
theorem seg_succ {f : Nat → Int32} {a n : Int} (h : 0 ≤ n) : seg f a (n + 1) = seg f a n ++ [tI f (a + n)] := lst_succ _ h
theorem seg_ne {f : Nat → Int32} {a n : Int} (h : 0 < n) : ¬ seg f a n = [] := by
  intro e
  have := congrArg List.length e
  unfold seg at this
  rw [lst_length] at this
  simp at this
  omega
theorem ex_app {c s : Int} {kk : Nat} {X E : List Int} (h : s = 4 * (kk : Int) - 4) (h0 : 0 ≤ s) (hX : X ++ ex c kk = E) : (X ++ [hc (hx c s)]) ++ ex c (kk - 1) = E := by
  obtain ⟨k, rfl⟩ : ∃ k, kk = k + 1 := ⟨kk - 1, by omega⟩
  rw [← hX, List.append_assoc, Nat.add_sub_cancel, ex, show s = 4 * (k : Int) by omega]
  rfl
theorem ex_end {c s : Int} {kk : Nat} {X E : List Int} (h : s = 4 * (kk : Int) - 4) (h0 : s < 0) (hX : X ++ ex c kk = E) : X = E := by
  obtain rfl : kk = 0 := by omega
  rw [← hX, ex, List.append_nil]
theorem cts_step {C : Nat → Int32} {a i o b z : Int} {Y : List Int} (hi : 0 ≤ i) (hz : z = tI C (a + i)) (h : ct b z = Y) : (o :: cts b (seg C a i)) ++ Y = o :: cts b (seg C a (i + 1)) := by
  rw [seg_succ hi, cts_app, ← hz, ← h]
  simp [cts]
