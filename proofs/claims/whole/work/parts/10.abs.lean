/-! the terms and the quads as lists -/
abbrev Tm : Type := Int × List Int × List Int × Int
abbrev Qd : Type := Int × Int × Int × Int
def seg (f : Nat → Int32) (a n : Int) : List Int := lst (fun i => tI f (a + i)) n
def tmAt (K Ln C TL TG TY : Nat → Int32) (t : Int) : Tm := (tI K t, seg C (t * 40) (tI Ln t), seg TG (t * 16) (tI TL t), tI TY t)
def qdAt (P : Nat → Int32) (i : Int) : Qd := (tI P (i * 4), tI P (i * 4 + 1), tI P (i * 4 + 2), tI P (i * 4 + 3))
/-- what the terms' rows keep -/
def tOk (Ln TL : Nat → Int32) (sz : Int) : Prop := 0 ≤ sz ∧ sz ≤ 120 ∧ ∀ t, 0 ≤ t → t < sz → 0 ≤ tI Ln t ∧ tI Ln t ≤ 40 ∧ 0 ≤ tI TL t ∧ tI TL t ≤ 16
theorem seg_ext {f f' : Nat → Int32} {a n : Int} (h : ∀ i, 0 ≤ i → i < n → tI f (a + i) = tI f' (a + i)) : seg f a n = seg f' a n := lst_ext h
