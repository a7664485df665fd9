/-! the reference reads -/
theorem sk_raw0y {T : List Int} {p x : Int} (hx : x = rd T p) (h : x ≠ 92) (hN : isN x) (h1 : x ≤ 126) : k1P T 0 p ∧ c1 T 0 p = x ∧ b1 T p = p + 1 := by
  obtain ⟨a, b, c⟩ := k1_raw (kd := 0) hx (by rw [← hx]; exact h)
  exact ⟨c.mpr (Or.inl ⟨rfl, hN, h1⟩), a, b⟩
theorem sk_raw0n {T : List Int} {p x : Int} (hx : x = rd T p) (h : x ≠ 92) (hn : ¬ (isN x ∧ x ≤ 126)) : ¬ k1P T 0 p := by
  obtain ⟨a, b, c⟩ := k1_raw (kd := 0) hx (by rw [← hx]; exact h)
  intro q
  rcases c.mp q with d | d
  · exact hn ⟨d.2.1, d.2.2⟩
  · exact d.1 rfl
theorem sk_raw2y {T : List Int} {p x : Int} (hx : x = rd T p) (h : x ≠ 92) (h1 : x = 9 ∨ (32 ≤ x ∧ x ≤ 126)) : k1P T 2 p ∧ c1 T 2 p = x ∧ b1 T p = p + 1 := by
  obtain ⟨a, b, c⟩ := k1_raw (kd := 2) hx (by rw [← hx]; exact h)
  exact ⟨c.mpr (Or.inr ⟨by decide, h1⟩), a, b⟩
theorem sk_raw2n {T : List Int} {p x : Int} (hx : x = rd T p) (h : x ≠ 92) (hn : ¬ (x = 9 ∨ (32 ≤ x ∧ x ≤ 126))) : ¬ k1P T 2 p := by
  obtain ⟨a, b, c⟩ := k1_raw (kd := 2) hx (by rw [← hx]; exact h)
  intro q
  rcases c.mp q with d | d
  · exact absurd d.1 (by decide)
  · exact hn d.2
theorem cod_y {v : Int} (h : isC v) : cod v = v := if_pos h
theorem cod_n {v : Int} (h : ¬ isC v) : cod v = -1 := if_neg h
theorem nN : ¬ isN (-1) := by decide
theorem sk_sl {T : List Int} {kd p x b : Int} (h : rd T p = 92) (hx : sc T kd p = x) (hb : sl T p = b) : c1 T kd p = x ∧ b1 T p = p + b ∧ (k1P T kd p ↔ ((kd = 0 ∧ isN x) ∨ (kd ≠ 0 ∧ x ≠ -1))) := k1_sl hx.symm (by rw [hb]) h
theorem sk_dig0y {T : List Int} {p v : Int} (h : rd T p = 92) (hd : 0 < dgt T p) (hv : v = vlu T p) (hC : isC v) (hN : isN v) : k1P T 0 p ∧ c1 T 0 p = v ∧ b1 T p = p + (dgt T p + 2) := by
  obtain ⟨a, b⟩ := sc_dig (kd := 0) hd
  obtain ⟨e1, e2, e3⟩ := sk_sl (kd := 0) (x := v) h (a.trans (by rw [← hv]; exact cod_y hC)) b
  exact ⟨e3.mpr (Or.inl ⟨rfl, hN⟩), e1, e2⟩
theorem sk_dig0n {T : List Int} {p v : Int} (h : rd T p = 92) (hd : 0 < dgt T p) (hv : v = vlu T p) (hn : ¬ (isC v ∧ isN v)) : ¬ k1P T 0 p := by
  obtain ⟨a, b⟩ := sc_dig (kd := 0) hd
  rw [← hv] at a
  intro q
  by_cases hC : isC v
  · rw [cod_y hC] at a
    rcases (sk_sl (kd := 0) h a b).2.2.mp q with d | d
    · exact hn ⟨hC, d.2⟩
    · exact d.1 rfl
  · rw [cod_n hC] at a
    rcases (sk_sl (kd := 0) h a b).2.2.mp q with d | d
    · exact nN d.2
    · exact d.1 rfl
theorem sk_no0 {T : List Int} {p : Int} (h : rd T p = 92) (hd : dgt T p = 0) : ¬ k1P T 0 p := by
  have a := sc_nodig (kd := 0) hd
  have a2 : sc T 0 p = -1 := by
    rw [a]
    split
    · rfl
    · rfl
  intro q
  rcases (sk_sl (kd := 0) h a2 rfl).2.2.mp q with d | d
  · exact nN d.2
  · exact d.1 rfl
theorem sk_sg2 {T : List Int} {p s : Int} (h : rd T p = 92) (hs : s = sgn (rd T (p + 1))) (h0 : 0 ≤ s) : k1P T 2 p ∧ c1 T 2 p = s ∧ b1 T p = p + 2 := by
  obtain ⟨a, b⟩ := sgn_sl (T := T) (p := p) (by rw [← hs]; omega)
  obtain ⟨e1, e2, e3⟩ := sk_sl (kd := 2) h (b.trans hs.symm) a
  exact ⟨e3.mpr (Or.inr ⟨by decide, by omega⟩), e1, e2⟩
theorem sk_dig2y {T : List Int} {p v : Int} (h : rd T p = 92) (hd : 0 < dgt T p) (hv : v = vlu T p) (hC : isC v) : k1P T 2 p ∧ c1 T 2 p = v ∧ b1 T p = p + (dgt T p + 2) := by
  obtain ⟨a, b⟩ := sc_dig (kd := 2) hd
  obtain ⟨e1, e2, e3⟩ := sk_sl (kd := 2) (x := v) h (a.trans (by rw [← hv]; exact cod_y hC)) b
  exact ⟨e3.mpr (Or.inr ⟨by decide, by have := hC.1; omega⟩), e1, e2⟩
theorem sk_dig2n {T : List Int} {p v : Int} (h : rd T p = 92) (hd : 0 < dgt T p) (hv : v = vlu T p) (hn : ¬ isC v) : ¬ k1P T 2 p := by
  obtain ⟨a, b⟩ := sc_dig (kd := 2) hd
  rw [← hv, cod_n hn] at a
  intro q
  rcases (sk_sl (kd := 2) h a b).2.2.mp q with d | d
  · exact absurd d.1 (by decide)
  · exact d.2 rfl
theorem sk_no2 {T : List Int} {p s : Int} (h : rd T p = 92) (hd : dgt T p = 0) (hs : s = sgn (rd T (p + 1))) (h0 : s < 0) : ¬ k1P T 2 p := by
  have a := sc_nodig (kd := 2) hd
  have hr := sgn_rg (rd T (p + 1))
  have a2 : sc T 2 p = -1 := by
    rw [a, if_pos rfl]
    split
    · rfl
    · omega
  intro q
  rcases (sk_sl (kd := 2) h a2 rfl).2.2.mp q with d | d
  · exact absurd d.1 (by decide)
  · exact d.2 rfl
/-- while codes are read: f0, p0 the start -/
def ScI (T : List Int) (kd n f0 p0 p f sz : Int) (MD : Nat → Int32) : Prop := (0 ≤ p ∧ p ≤ n) ∧ (0 ≤ sz ∧ sz ≤ 40) ∧ ((0 ≤ f0 ∧ f = f0) ∨ (f0 = -1 ∧ 0 ≤ f ∧ f ≤ n ∧ rc T kd p0 = .error f) ∨ (f0 = -1 ∧ f = -1 ∧ rc T kd p0 = rcE T kd (cd T kd (40 - sz).toNat p (lst (tI MD) sz))))
theorem ScI_f {T : List Int} {kd n f0 p0 p f sz : Int} {MD : Nat → Int32} (h : ScI T kd n f0 p0 p f sz MD) : f = -1 ∨ (0 ≤ f ∧ (f = f0 ∨ f ≤ n)) := by
  rcases h.2.2 with a | a | a <;> omega
theorem ScI_live {T : List Int} {kd n f0 p0 p f sz : Int} {MD : Nat → Int32} (h : ScI T kd n f0 p0 p f sz MD) (hf : f < 0) : f0 = -1 ∧ f = -1 ∧ rc T kd p0 = rcE T kd (cd T kd (40 - sz).toNat p (lst (tI MD) sz)) := by
  rcases h.2.2 with a | a | a
  · omega
  · omega
  · exact a
theorem rcE_full {T : List Int} {kd p : Int} {sz : Int} {MD : Nat → Int32} (hz : sz = 40) (hr : rd T p ≠ clo kd) : rcE T kd (cd T kd (40 - sz).toNat p (lst (tI MD) sz)) = .error p := by
  rw [show (40 - sz).toNat = 0 by omega, cd_stop (Or.inl rfl), rcE_2 _ hr]
  rintro ⟨-, e⟩
  have := congrArg List.length e
  rw [lst_length] at this
  simp at this
  omega
theorem ScI_take {T : List Int} {kd n f0 p0 p f sz p2 f2 sz2 c b : Int} {MD MD2 : Nat → Int32} (hL : (T.length : Int) = n) (h : ScI T kd n f0 p0 p f sz MD) (hf : f < 0) (hr : rd T p ≠ clo kd) (hk : k1P T kd p ∧ c1 T kd p = c ∧ b1 T p = p + b) (hc : -2147483648 ≤ c ∧ c < 2147483648) (ht : (sz = 40 ∧ p2 = p ∧ f2 = (if f < 0 then p else f) ∧ sz2 = sz ∧ MD2 = MD) ∨ (sz < 40 ∧ p2 = p + b ∧ f2 = f ∧ sz2 = sz + 1 ∧ MD2 = fu MD sz c)) : ScI T kd n f0 p0 p2 f2 sz2 MD2 := by
  obtain ⟨l1, l2, l3⟩ := ScI_live h hf
  have hp := h.1
  have hz := h.2.1
  have hb := b1_le hk.1 hp.1
  rcases ht with ⟨a1, rfl, a3, rfl, rfl⟩ | ⟨a1, rfl, rfl, rfl, rfl⟩
  · rw [if_pos hf] at a3
    refine ⟨hp, hz, Or.inr (Or.inl ⟨l1, by omega, by omega, ?_⟩)⟩
    rw [l3, a3]
    exact rcE_full a1 hr
  · refine ⟨by omega, by omega, Or.inr (Or.inr ⟨l1, l2, ?_⟩)⟩
    rw [l3, show (40 - sz).toNat = (40 - (sz + 1)).toNat + 1 by omega, cd_step hr hk.1, hk.2.1, hk.2.2, lst_push MD hz.1 hc]
theorem ScI_bad {T : List Int} {kd n f0 p0 p f sz f2 : Int} {MD : Nat → Int32} (h : ScI T kd n f0 p0 p f sz MD) (hf : f < 0) (hr : rd T p ≠ clo kd) (hk : ¬ k1P T kd p) (h2 : f2 = if f < 0 then p else f) : ScI T kd n f0 p0 p f2 sz MD := by
  obtain ⟨l1, l2, l3⟩ := ScI_live h hf
  have hp := h.1
  have hz := h.2.1
  rw [if_pos hf] at h2
  refine ⟨hp, hz, Or.inr (Or.inl ⟨l1, by omega, by omega, ?_⟩)⟩
  rw [l3, h2]
  by_cases e : sz = 40
  · exact rcE_full e hr
  · rw [show (40 - sz).toNat = (40 - (sz + 1)).toNat + 1 by omega, cd_bad hr hk]
    rfl
theorem ScI_start {T : List Int} {kd n p f c p2 f2 : Int} {MD : Nat → Int32} (hf : f = -1 ∨ 0 ≤ f) (hp : 0 ≤ p ∧ p ≤ n) (hL : (T.length : Int) = n) (ho : opn kd = c) (hm : (0 ≤ f ∧ p2 = p ∧ f2 = f) ∨ (f < 0 ∧ rd T p = c ∧ p2 = p + 1 ∧ f2 = f) ∨ (f < 0 ∧ rd T p ≠ c ∧ p2 = p ∧ f2 = p)) (hc : c ≠ -1) : ScI T kd n f p p2 f2 0 MD := by
  rcases hm with ⟨a1, a2, a3⟩ | ⟨a1, a2, a3, a4⟩ | ⟨a1, a2, a3, a4⟩
  · exact ⟨by omega, by omega, Or.inl ⟨a1, a3⟩⟩
  · have hl := rd_lt (T := T) (p := p) (by omega)
    refine ⟨by omega, by omega, Or.inr (Or.inr ⟨by omega, by omega, ?_⟩)⟩
    rw [rc_of (by rw [ho]; exact a2) rfl, a3, lst_neg (Int.le_refl 0)]
    rfl
  · exact ⟨by omega, by omega, Or.inr (Or.inl ⟨by omega, by omega, by omega, by rw [rc_no (by rw [ho]; exact a2), a4]⟩)⟩
/-- behind the closing sign -/
def NdR (T : List Int) (kd n f0 p0 p f sz : Int) (MD : Nat → Int32) : Prop := (0 ≤ p ∧ p ≤ n) ∧ (0 ≤ sz ∧ sz ≤ 40) ∧ ((0 ≤ f0 ∧ f = f0) ∨ (f0 = -1 ∧ 0 ≤ f ∧ f ≤ n ∧ rc T kd p0 = .error f) ∨ (f0 = -1 ∧ f = -1 ∧ rc T kd p0 = .ok (p, lst (tI MD) sz)))
theorem NdR_f {T : List Int} {kd n f0 p0 p f sz : Int} {MD : Nat → Int32} (h : NdR T kd n f0 p0 p f sz MD) : f = -1 ∨ (0 ≤ f ∧ (f = f0 ∨ f ≤ n)) := by
  rcases h.2.2 with a | a | a <;> omega
theorem NdR_dead {T : List Int} {kd n f0 p0 p f sz : Int} {MD : Nat → Int32} (h : ScI T kd n f0 p0 p f sz MD) (hf : 0 ≤ f) : NdR T kd n f0 p0 p f sz MD := by
  rcases h.2.2 with a | a | a
  · exact ⟨h.1, h.2.1, Or.inl a⟩
  · exact ⟨h.1, h.2.1, Or.inr (Or.inl a)⟩
  · omega
theorem NdR_0 {T : List Int} {kd n f0 p0 p f sz f2 : Int} {MD : Nat → Int32} (h : ScI T kd n f0 p0 p f sz MD) (hf : f < 0) (hr : rd T p = clo kd) (hk : kd = 0) (hz : sz = 0) (h2 : f2 = if f < 0 then p else f) : NdR T kd n f0 p0 p f2 sz MD := by
  obtain ⟨l1, l2, l3⟩ := ScI_live h hf
  have hp := h.1
  rw [if_pos hf] at h2
  refine ⟨h.1, h.2.1, Or.inr (Or.inl ⟨l1, by omega, by omega, ?_⟩)⟩
  rw [l3, cd_stop (Or.inr hr), rcE_0 ⟨hk, lst_neg (by omega)⟩, h2]
theorem NdR_1 {T : List Int} {kd n f0 p0 p f sz p2 f2 : Int} {MD : Nat → Int32} (hL : (T.length : Int) = n) (h : ScI T kd n f0 p0 p f sz MD) (hf : f < 0) (hr : rd T p = clo kd) (hz : ¬ (kd = 0 ∧ sz = 0)) (h2 : p2 = p + 1) (h3 : f2 = f) (hc : clo kd ≠ -1) : NdR T kd n f0 p0 p2 f2 sz MD := by
  obtain ⟨l1, l2, l3⟩ := ScI_live h hf
  have hp := h.1
  have hs := h.2.1
  have hl := rd_lt (T := T) (p := p) (by rw [hr]; exact hc)
  refine ⟨by omega, h.2.1, Or.inr (Or.inr ⟨l1, by omega, ?_⟩)⟩
  rw [l3, cd_stop (Or.inr hr), rcE_1 _ hr, h2]
  rintro ⟨e1, e2⟩
  exact hz ⟨e1, (lst_nil hs.1).mp e2⟩
/-- what a note does, in the pure words -/
def mT (ts2 : List Tm) (ov2 z : Int) (ts : List Tm) (ov fr : Int) (m : Stm) : Prop := (ov = 1 ∧ z = 0 ∧ ov2 = 1 ∧ ts2 = ts) ∨ (ov = 0 ∧ ov2 = 0 ∧ (ts2, 0, z) = itT ts 0 fr m) ∨ (ov = 0 ∧ ov2 = 1 ∧ (itT ts 0 fr m).2.1 = 1 ∧ ∃ e, ts2 = ts ++ e)
theorem itn_M {ts2 ts : List Tm} {ov2 z a : Int} {v : Tm} (ha : 0 ≤ a) (h : nOutM ts2 ov2 z ts a v) : (ov2 = 0 ∧ (ts2, 0, z) = itn ts 0 a v ∧ 0 ≤ z) ∨ (ov2 = 1 ∧ (itn ts 0 a v).2.1 = 1 ∧ ts2 = ts) := by
  unfold itn
  rcases h with ⟨h1, h2, h3, h4⟩ | ⟨h1, h2, h3, h4, h5⟩ | ⟨h1, h2, h3, h4, h5⟩
  · rw [if_pos h1]
    refine Or.inl ⟨h4, by rw [h2, h3], ?_⟩
    have := idxF_rg (ts.drop a.toNat) v a ha
    omega
  · rw [if_neg (fun q => q h1), if_neg (by omega)]
    exact Or.inr ⟨h5, rfl, h4⟩
  · rw [if_neg (fun q => q h1), if_pos h2]
    exact Or.inl ⟨h5, by rw [h3, h4], by omega⟩
/-- what a term's reading gives -/
def RsM (n f p2 f2 ov : Int) (r : Except Int (Int × Stm)) (z ov2 : Int) (ts2 ts : List Tm) (fr : Int) : Prop := (0 ≤ p2 ∧ p2 ≤ n) ∧ ((0 ≤ f ∧ f2 = f ∧ z = 0 ∧ ov2 = ov ∧ ts2 = ts) ∨ (f = -1 ∧ (∃ k, r = .error k ∧ f2 = k ∧ 0 ≤ k ∧ k ≤ n) ∧ z = 0 ∧ ov2 = ov ∧ ts2 = ts) ∨ (f = -1 ∧ ∃ q m, r = .ok (q, m) ∧ f2 = -1 ∧ p2 = q ∧ mT ts2 ov2 z ts ov fr m))
def ndE : Except Int (Int × List Int) → Except Int (Int × Stm)
  | .error k => .error k
  | .ok (q, l) => .ok (q, (0, l, [], none))
theorem RsM_node {T : List Int} {n f p0 p f2 sz ov ov2 z fr : Int} {MD : Nat → Int32} {ts2 ts : List Tm} {G : List Int} (hG : G = []) (hov : ov = 0 ∨ ov = 1) (h : NdR T 0 n f p0 p f2 sz MD) (hn : (f2 < 0 ∧ ov = 0 ∧ nOutM ts2 ov2 z ts 0 (0, lst (tI MD) sz, G, -1)) ∨ (¬ (f2 < 0 ∧ ov = 0) ∧ z = 0 ∧ ov2 = ov ∧ ts2 = ts)) : RsM n f p f2 ov (ndE (rc T 0 p0)) z ov2 ts2 ts fr := by
  subst hG
  refine ⟨h.1, ?_⟩
  rcases h.2.2 with a | a | a
  · rcases hn with b | b
    · omega
    · exact Or.inl ⟨a.1, a.2, b.2⟩
  · rcases hn with b | b
    · omega
    · exact Or.inr (Or.inl ⟨a.1, ⟨f2, by rw [a.2.2.2]; rfl, rfl, a.2.1, a.2.2.1⟩, b.2⟩)
  · refine Or.inr (Or.inr ⟨a.1, p, (0, lst (tI MD) sz, [], none), by rw [a.2.2]; rfl, a.2.1, rfl, ?_⟩)
    rcases hn with b | b
    · rcases itn_M (Int.le_refl 0) b.2.2 with c | c
      · exact Or.inr (Or.inl ⟨b.2.1, c.1, c.2.1⟩)
      · exact Or.inr (Or.inr ⟨b.2.1, c.1, c.2.1, ⟨[], by rw [c.2.2, List.append_nil]⟩⟩)
    · exact Or.inl ⟨by omega, b.2.1, by omega, b.2.2.2⟩
/-- what is left of a scan -/
def msr (n p f : Int) : Nat := if f < 0 then (n - p).toNat + 1 else 0
theorem msr_dec {n p f p2 f2 : Int} {k : Nat} (hf : f < 0) (hm : msr n p f < k + 1) (h2 : 0 ≤ f2 ∨ (p < p2 ∧ p2 ≤ n)) : msr n p2 f2 < k := by
  unfold msr at hm ⊢
  rw [if_pos hf] at hm
  split <;> omega
theorem ScI_adv {T : List Int} {kd n f0 p0 p f sz p2 f2 sz2 c b : Int} {MD MD2 : Nat → Int32} (h9 : ScI T kd n f0 p0 p2 f2 sz2 MD2) (hp : 0 ≤ p) (hf : f < 0) (hb : 1 ≤ b) (ht : (sz = 40 ∧ p2 = p ∧ f2 = (if f < 0 then p else f) ∧ sz2 = sz ∧ MD2 = MD) ∨ (sz < 40 ∧ p2 = p + b ∧ f2 = f ∧ sz2 = sz + 1 ∧ MD2 = fu MD sz c)) : 0 ≤ f2 ∨ (p < p2 ∧ p2 ≤ n) := by
  have h1 := h9.1
  rcases ht with ⟨-, -, a3, -⟩ | ⟨-, a2, -⟩
  · rw [if_pos hf] at a3; omega
  · omega
theorem bad_adv {n p q f f2 : Int} (hf : f < 0) (hp : 0 ≤ p) (h2 : f2 = if f < 0 then p else f) : 0 ≤ f2 ∨ (p < q ∧ q ≤ n) := Or.inl (by rw [h2, if_pos hf]; exact hp)
theorem sk_dig0t {T : List Int} {p d v1 v2 v3 : Int} (h : rd T p = 92) (hd : d = dgt T p) (h0 : 0 < d) (e1 : v1 = hv T d.toNat (p + 2) 0) (e2 : v2 = hv T d.toNat (p + 2) 0) (e3 : v3 = hv T d.toNat (p + 2) 0) (hC : isC v1) (hN : isN v2) : k1P T 0 p ∧ c1 T 0 p = v3 ∧ b1 T p = p + (d + 2) := by
  subst hd
  rw [e3]
  exact sk_dig0y h h0 rfl (by rw [← e1]; exact hC) (by rw [← e2]; exact hN)
theorem sk_dig0c {T : List Int} {p d v1 : Int} (h : rd T p = 92) (hd : d = dgt T p) (h0 : 0 < d) (e1 : v1 = hv T d.toNat (p + 2) 0) (hC : ¬ isC v1) : ¬ k1P T 0 p := by
  subst hd
  exact sk_dig0n h h0 e1 (fun q => hC q.1)
theorem sk_dig0d {T : List Int} {p d v1 : Int} (h : rd T p = 92) (hd : d = dgt T p) (h0 : 0 < d) (e1 : v1 = hv T d.toNat (p + 2) 0) (hN : ¬ isN v1) : ¬ k1P T 0 p := by
  subst hd
  exact sk_dig0n h h0 e1 (fun q => hN q.2)
theorem sk_dig2t {T : List Int} {p d v1 v3 : Int} (h : rd T p = 92) (hd : d = dgt T p) (h0 : 0 < d) (e1 : v1 = hv T d.toNat (p + 2) 0) (e3 : v3 = hv T d.toNat (p + 2) 0) (hC : isC v1) : k1P T 2 p ∧ c1 T 2 p = v3 ∧ b1 T p = p + (d + 2) := by
  subst hd
  rw [e3]
  exact sk_dig2y h h0 rfl (by rw [← e1]; exact hC)
theorem sk_dig2c {T : List Int} {p d v1 : Int} (h : rd T p = 92) (hd : d = dgt T p) (h0 : 0 < d) (e1 : v1 = hv T d.toNat (p + 2) 0) (hC : ¬ isC v1) : ¬ k1P T 2 p := by
  subst hd
  exact sk_dig2n h h0 e1 hC
theorem dig_rg {v1 v3 x : Int} (e1 : v1 = x) (e3 : v3 = x) (hC : isC v1) : -2147483648 ≤ v3 ∧ v3 < 2147483648 := by
  obtain ⟨a, b, -⟩ := hC
  omega
