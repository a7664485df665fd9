/-! a pure reading: T the tape's bytes -/
abbrev byt (T : List Int) : Prop := ∀ x ∈ T, 0 ≤ x ∧ x < 256
theorem rd_end {T : List Int} {p : Int} (h : (T.length : Int) ≤ p) : rd T p = -1 := by
  unfold rd
  rw [if_pos (by omega), List.getD_eq_getElem?_getD, List.getElem?_eq_none (by omega)]
  rfl
theorem rd_neg {T : List Int} {p : Int} (h : p < 0) : rd T p = -1 := by
  unfold rd
  rw [if_neg (by omega)]
theorem rd_lt {T : List Int} {p : Int} (h : rd T p ≠ -1) : 0 ≤ p ∧ p < T.length := by
  by_cases h0 : p < 0
  · exact absurd (rd_neg h0) h
  · by_cases h1 : (T.length : Int) ≤ p
    · exact absurd (rd_end h1) h
    · omega
theorem rd_byt {T : List Int} (hT : byt T) (p : Int) : -1 ≤ rd T p ∧ rd T p < 256 := by
  by_cases h : rd T p = -1
  · omega
  · have hp := rd_lt h
    have hm : rd T p ∈ T := by
      unfold rd
      rw [if_pos hp.1, List.getD_eq_getElem?_getD, List.getElem?_eq_getElem (by omega)]
      exact List.getElem_mem _
    have := hT _ hm
    omega
theorem rd_ge {T : List Int} (hT : byt T) {p : Int} (h0 : 0 ≤ p) (h1 : p < T.length) : 0 ≤ rd T p := by
  have hm : rd T p ∈ T := by
    unfold rd
    rw [if_pos h0, List.getD_eq_getElem?_getD, List.getElem?_eq_getElem (by omega)]
    exact List.getElem_mem _
  have := hT _ hm
  omega
/-- over blanks -/
def bl (T : List Int) (p : Int) : Int := if h : isB (rd T p) then bl T (p + 1) else p
termination_by (T.length - p).toNat
decreasing_by
  have := rd_lt (T := T) (p := p) (by omega)
  omega
theorem bl_b {T : List Int} {p : Int} (h : isB (rd T p)) : bl T p = bl T (p + 1) := by rw [bl, dif_pos h]
theorem bl_e {T : List Int} {p : Int} (h : ¬ isB (rd T p)) : bl T p = p := by rw [bl, dif_neg h]
/-- over a remark -/
def cm (T : List Int) (p : Int) : Int := if h : rd T p ≠ -1 ∧ rd T p ≠ 10 then cm T (p + 1) else p
termination_by (T.length - p).toNat
decreasing_by
  have := rd_lt (T := T) (p := p) h.1
  omega
theorem cm_b {T : List Int} {p : Int} (h : rd T p ≠ -1 ∧ rd T p ≠ 10) : cm T p = cm T (p + 1) := by rw [cm, dif_pos h]
theorem cm_e {T : List Int} {p : Int} (h : ¬ (rd T p ≠ -1 ∧ rd T p ≠ 10)) : cm T p = p := by rw [cm, dif_neg h]
/-- digits with 16: the number, -1 when one is none -/
def hv (T : List Int) : Nat → Int → Int → Int
  | 0, _, a => a
  | k + 1, p, a => if hexD (rd T p) = -1 then -1 else hv T k (p + 1) (a * 16 + hexD (rd T p))
def cod (v : Int) : Int := if isC v then v else -1
/-- the code that a \ at p begins, or -1; how many bytes it has -/
def sc (T : List Int) (kind p : Int) : Int := if rd T (p + 1) = 117 then cod (hv T 4 (p + 2) 0) else if rd T (p + 1) = 85 then cod (hv T 8 (p + 2) 0) else if kind = 2 then sgn (rd T (p + 1)) else -1
def sl (T : List Int) (p : Int) : Int := 2 + (if rd T (p + 1) = 117 then 4 else if rd T (p + 1) = 85 then 8 else 0)
abbrev okc (kind c : Int) (raw : Prop) : Prop := (kind = 0 ∧ isN c ∧ (¬ raw ∨ c ≤ 126)) ∨ (kind ≠ 0 ∧ ((raw ∧ (c = 9 ∨ (32 ≤ c ∧ c ≤ 126))) ∨ (¬ raw ∧ c ≠ -1)))
def clo (kind : Int) : Int := if kind = 0 then 62 else 34
def opn (kind : Int) : Int := if kind = 0 then 60 else 34
/-- a code at p, and the place behind it; -1 where there is none -/
def c1 (T : List Int) (kind p : Int) : Int := if rd T p = 92 then sc T kind p else rd T p
def b1 (T : List Int) (p : Int) : Int := if rd T p = 92 then p + sl T p else p + 1
abbrev k1 (T : List Int) (kind p : Int) : Prop := okc kind (c1 T kind p) (rd T p ≠ 92)
/-- the same, as a word that omega leaves alone -/
def k1P (T : List Int) (kind p : Int) : Prop := k1 T kind p
def cd (T : List Int) (kind : Int) : Nat → Int → List Int → Except Int (Int × List Int)
  | 0, p, a => .ok (p, a)
  | k + 1, p, a => if rd T p = clo kind then .ok (p, a) else if k1 T kind p then cd T kind k (b1 T p) (a ++ [c1 T kind p]) else .error p
def rcE (T : List Int) (kind : Int) : Except Int (Int × List Int) → Except Int (Int × List Int)
  | .error k => .error k
  | .ok (q, l) => if kind = 0 ∧ l = [] then .error q else if rd T q = clo kind then .ok (q + 1, l) else .error q
def rc (T : List Int) (kind p : Int) : Except Int (Int × List Int) := if rd T p = opn kind then rcE T kind (cd T kind 40 (p + 1) []) else .error p
/-- a name's end -/
def nmE (T : List Int) (i e : Int) : Int := if h : isNm (rd T i) then nmE T (i + 1) (if rd T i = 46 then e else i + 1) else e
termination_by (T.length - i).toNat
decreasing_by
  have := rd_lt (T := T) (p := i) (by omega)
  omega
theorem nmE_b {T : List Int} {i e : Int} (h : isNm (rd T i)) : nmE T i e = nmE T (i + 1) (if rd T i = 46 then e else i + 1) := by rw [nmE, dif_pos h]
theorem nmE_e {T : List Int} {i e : Int} (h : ¬ isNm (rd T i)) : nmE T i e = e := by rw [nmE, dif_neg h]
/-- what a method of the reader leaves: n the tape's length, f the fault before, r the pure reading -/
def Res {α : Type} (n f : Int) (r : Except Int (Int × α)) (p2 f2 : Int) (ok : α → Prop) : Prop :=
  0 ≤ p2 ∧ p2 ≤ n ∧ (f2 = -1 ∨ (0 ≤ f2 ∧ f2 ≤ n ∧ p2 = n)) ∧ (f ≠ -1 → f2 = f) ∧ (f = -1 → match r with
    | .error k => f2 = k ∧ 0 ≤ k
    | .ok (q, d) => f2 = -1 ∧ p2 = q ∧ ok d)
theorem p16 {k : Nat} (h : k ≤ 8) : (16 : Int) ^ k ≤ 4294967296 := by
  have h1 : (16 : Nat) ^ k ≤ 16 ^ 8 := Nat.pow_le_pow_right (by omega) h
  have h2 : ((16 ^ k : Nat) : Int) ≤ ((16 ^ 8 : Nat) : Int) := Int.ofNat_le.mpr h1
  simpa using h2
theorem hv_s {T : List Int} {k : Nat} {p a : Int} (h : hexD (rd T p) ≠ -1) : hv T (k + 1) p a = hv T k (p + 1) (a * 16 + hexD (rd T p)) := by
  conv => lhs; unfold hv
  rw [if_neg h]
theorem hv_n {T : List Int} {k : Nat} {p a : Int} (h : hexD (rd T p) = -1) : hv T (k + 1) p a = -1 := by
  unfold hv
  rw [if_pos h]
theorem cd_stop {T : List Int} {kd p : Int} {k : Nat} {a : List Int} (h : k = 0 ∨ rd T p = clo kd) : cd T kd k p a = .ok (p, a) := by
  cases k with
  | zero => rfl
  | succ k =>
    unfold cd
    rw [if_pos (by omega)]
theorem cd_step {T : List Int} {kd p : Int} {k : Nat} {a : List Int} (h1 : rd T p ≠ clo kd) (h2 : k1P T kd p) : cd T kd (k + 1) p a = cd T kd k (b1 T p) (a ++ [c1 T kd p]) := by
  conv => lhs; unfold cd
  have h3 : k1 T kd p := h2
  rw [if_neg h1, if_pos h3]
theorem cd_bad {T : List Int} {kd p : Int} {k : Nat} {a : List Int} (h1 : rd T p ≠ clo kd) (h2 : ¬ k1P T kd p) : cd T kd (k + 1) p a = .error p := by
  unfold cd
  have h3 : ¬ k1 T kd p := h2
  rw [if_neg h1, if_neg h3]
theorem rc_of {T : List Int} {kd p : Int} {r : Except Int (Int × List Int)} (ho : rd T p = opn kd) (h : cd T kd 40 (p + 1) [] = r) : rc T kd p = rcE T kd r := by
  unfold rc
  rw [if_pos ho, h]
theorem rc_no {T : List Int} {kd p : Int} (ho : rd T p ≠ opn kd) : rc T kd p = .error p := by
  unfold rc
  rw [if_neg ho]
theorem rcE_0 {T : List Int} {kd q : Int} {l : List Int} (h : kd = 0 ∧ l = []) : rcE T kd (.ok (q, l)) = .error q := if_pos h
theorem rcE_1 {T : List Int} {kd q : Int} {l : List Int} (h : ¬ (kd = 0 ∧ l = [])) (h1 : rd T q = clo kd) : rcE T kd (.ok (q, l)) = .ok (q + 1, l) := (if_neg h).trans (if_pos h1)
theorem rcE_2 {T : List Int} {kd q : Int} {l : List Int} (h : ¬ (kd = 0 ∧ l = [])) (h1 : rd T q ≠ clo kd) : rcE T kd (.ok (q, l)) = .error q := (if_neg h).trans (if_neg h1)
theorem Res_err {α : Type} {n f k p2 f2 : Int} {r : Except Int (Int × α)} {ok : α → Prop} (hf : f = -1) (hr : r = .error k) (h0 : 0 ≤ k ∧ k ≤ n) (hp : p2 = n) (h2 : f2 = k) : Res n f r p2 f2 ok := by
  subst hr
  refine ⟨by omega, by omega, by omega, fun h => absurd hf h, fun _ => ⟨h2, h0.1⟩⟩
theorem Res_ok {α : Type} {n f q p2 f2 : Int} {r : Except Int (Int × α)} {d : α} {ok : α → Prop} (hf : f = -1) (hr : r = .ok (q, d)) (hp : p2 = q) (h0 : 0 ≤ p2 ∧ p2 ≤ n) (h2 : f2 = -1) (hd : ok d) : Res n f r p2 f2 ok := by
  subst hr
  exact ⟨h0.1, h0.2, Or.inl h2, fun h => absurd hf h, fun _ => ⟨h2, hp, hd⟩⟩
theorem Res_dead {α : Type} {n f p2 f2 : Int} {r : Except Int (Int × α)} {ok : α → Prop} (hf : f ≠ -1) (h0 : 0 ≤ f ∧ f ≤ n) (hp : p2 = n) (h2 : f2 = f) : Res n f r p2 f2 ok :=
  ⟨by omega, by omega, by omega, fun _ => h2, fun h => absurd h hf⟩
theorem lst_nil {α : Type} {g : Int → α} {n : Int} (h : 0 ≤ n) : lst g n = [] ↔ n = 0 := by
  constructor
  · intro e
    have := congrArg List.length e
    rw [lst_length] at this
    simp at this
    omega
  · intro e
    exact lst_neg (by omega)
theorem hv_len {T : List Int} : ∀ (k : Nat) (p a : Int), hv T k p a ≠ -1 → k = 0 ∨ p + k ≤ T.length := by
  intro k
  induction k with
  | zero => intro p a _; exact Or.inl rfl
  | succ k ih =>
    intro p a h
    refine Or.inr ?_
    by_cases hx : hexD (rd T p) = -1
    · exact absurd (hv_n hx) h
    · rw [hv_s hx] at h
      have hp : rd T p ≠ -1 := fun q => hx (by rw [q]; decide)
      have := rd_lt hp
      rcases ih _ _ h with h1 | h1
      · subst h1; omega
      · omega
theorem cod_ne {v : Int} (h : cod v ≠ -1) : v ≠ -1 := by
  unfold cod at h
  intro e
  subst e
  exact h (by decide)
theorem sgn_m1 : sgn (-1) = -1 := by decide
theorem sc_len {T : List Int} {kd p : Int} (h : sc T kd p ≠ -1) (h0 : 0 ≤ p) : p + sl T p ≤ T.length := by
  unfold sc at h
  unfold sl
  by_cases h1 : rd T (p + 1) = 117
  · rw [if_pos h1] at h ⊢
    have := hv_len 4 (p + 2) 0 (cod_ne h)
    omega
  · rw [if_neg h1] at h ⊢
    by_cases h2 : rd T (p + 1) = 85
    · rw [if_pos h2] at h ⊢
      have := hv_len 8 (p + 2) 0 (cod_ne h)
      omega
    · rw [if_neg h2] at h ⊢
      have h3 : rd T (p + 1) ≠ -1 := by
        intro e
        rw [e, sgn_m1] at h
        split at h <;> exact h rfl
      have := rd_lt h3
      omega
theorem sl_pos (T : List Int) (p : Int) : 2 ≤ sl T p := by
  unfold sl
  split
  · omega
  · split <;> omega
theorem k1_raw {T : List Int} {kd p x : Int} (hx : x = rd T p) (h : rd T p ≠ 92) : c1 T kd p = x ∧ b1 T p = p + 1 ∧ (k1 T kd p ↔ ((kd = 0 ∧ isN x ∧ x ≤ 126) ∨ (kd ≠ 0 ∧ (x = 9 ∨ (32 ≤ x ∧ x ≤ 126))))) := by
  have e : c1 T kd p = x := by unfold c1; rw [if_neg h, hx]
  refine ⟨e, if_neg h, ?_⟩
  unfold k1
  rw [e]
  omega
theorem k1_sl {T : List Int} {kd p x b : Int} (hx : x = sc T kd p) (hb : b = p + sl T p) (h : rd T p = 92) : c1 T kd p = x ∧ b1 T p = b ∧ (k1 T kd p ↔ ((kd = 0 ∧ isN x) ∨ (kd ≠ 0 ∧ x ≠ -1))) := by
  have e : c1 T kd p = x := by unfold c1; rw [if_pos h, hx]
  refine ⟨e, by unfold b1; rw [if_pos h, hb], ?_⟩
  unfold k1
  rw [e]
  omega
theorem b1_le {T : List Int} {kd p : Int} (h : k1P T kd p) (h0 : 0 ≤ p) : p < b1 T p ∧ b1 T p ≤ T.length := by
  by_cases h1 : rd T p = 92
  · obtain ⟨e1, e2, e3⟩ := k1_sl (kd := kd) rfl rfl h1
    have h2 := e3.mp h
    have h3 := sc_len (T := T) (kd := kd) (p := p) (by omega) h0
    have h4 := sl_pos T p
    omega
  · obtain ⟨e1, e2, e3⟩ := k1_raw (kd := kd) rfl h1
    have h2 := e3.mp h
    have h3 := rd_lt (T := T) (p := p) (by omega)
    omega
theorem k1_y0r {T : List Int} {kd p x : Int} (hx : x = rd T p) (h : rd T p ≠ 92) (hk : kd = 0) (HO : isN x ∧ ((1 : Int) = 0 ∨ x ≤ 126)) : k1P T kd p := (k1_raw hx h).2.2.mpr (Or.inl ⟨hk, HO.1, HO.2.resolve_left (by decide)⟩)
theorem k1_y0s {T : List Int} {kd p x : Int} (hx : x = sc T kd p) (h : rd T p = 92) (hk : kd = 0) (HO : isN x ∧ ((0 : Int) = 0 ∨ x ≤ 126)) : k1P T kd p := (k1_sl hx rfl h).2.2.mpr (Or.inl ⟨hk, HO.1⟩)
theorem k1_y2r {T : List Int} {kd p x : Int} (hx : x = rd T p) (h : rd T p ≠ 92) (hk : kd ≠ 0) (HO : ((1 : Int) = 1 ∧ (x = 9 ∨ (32 ≤ x ∧ x ≤ 126))) ∨ ((1 : Int) = 0 ∧ x ≠ -1)) : k1P T kd p := (k1_raw hx h).2.2.mpr (Or.inr ⟨hk, HO.elim (fun h => h.2) (fun h => absurd h.1 (by decide))⟩)
theorem k1_y2s {T : List Int} {kd p x : Int} (hx : x = sc T kd p) (h : rd T p = 92) (hk : kd ≠ 0) (HO : ((0 : Int) = 1 ∧ (x = 9 ∨ (32 ≤ x ∧ x ≤ 126))) ∨ ((0 : Int) = 0 ∧ x ≠ -1)) : k1P T kd p := (k1_sl hx rfl h).2.2.mpr (Or.inr ⟨hk, HO.elim (fun h => absurd h.1 (by decide)) (fun h => h.2)⟩)
theorem k1_n0r {T : List Int} {kd p x : Int} (hx : x = rd T p) (h : rd T p ≠ 92) (hk : kd = 0) (HO : ¬ (isN x ∧ ((1 : Int) = 0 ∨ x ≤ 126))) : ¬ k1P T kd p := fun h9 => ((k1_raw hx h).2.2.mp h9).elim (fun a => HO ⟨a.2.1, Or.inr a.2.2⟩) (fun a => a.1 hk)
theorem k1_n0s {T : List Int} {kd p x : Int} (hx : x = sc T kd p) (h : rd T p = 92) (hk : kd = 0) (HO : ¬ (isN x ∧ ((0 : Int) = 0 ∨ x ≤ 126))) : ¬ k1P T kd p := fun h9 => ((k1_sl hx rfl h).2.2.mp h9).elim (fun a => HO ⟨a.2, Or.inl rfl⟩) (fun a => a.1 hk)
theorem k1_n2r {T : List Int} {kd p x : Int} (hx : x = rd T p) (h : rd T p ≠ 92) (hk : kd ≠ 0) (HO : ¬ (((1 : Int) = 1 ∧ (x = 9 ∨ (32 ≤ x ∧ x ≤ 126))) ∨ ((1 : Int) = 0 ∧ x ≠ -1))) : ¬ k1P T kd p := fun h9 => ((k1_raw hx h).2.2.mp h9).elim (fun a => hk a.1) (fun a => HO (Or.inl ⟨rfl, a.2⟩))
theorem k1_n2s {T : List Int} {kd p x : Int} (hx : x = sc T kd p) (h : rd T p = 92) (hk : kd ≠ 0) (HO : ¬ (((0 : Int) = 1 ∧ (x = 9 ∨ (32 ≤ x ∧ x ≤ 126))) ∨ ((0 : Int) = 0 ∧ x ≠ -1))) : ¬ k1P T kd p := fun h9 => ((k1_sl hx rfl h).2.2.mp h9).elim (fun a => hk a.1) (fun a => HO (Or.inr ⟨rfl, a.2⟩))
/-! a tag -/
def sgI (c fp : Int) : Int := if isL c ∨ (isG c ∧ fp = 0) then 1 else 0
def dsI (c ip : Int) : Int := if c = 45 ∧ 0 < ip then 1 else 0
def tg (T : List Int) : Nat → Int → Int → Int → List Int → Except Int (Int × Int × List Int)
  | 0, p, _, ip, a => .ok (p, ip, a)
  | k + 1, p, fp, ip, a => if dsI (rd T p) ip = 0 ∧ sgI (rd T p) fp = 0 then .ok (p, ip, a) else if (a.length : Int) = 16 ∨ (sgI (rd T p) fp = 1 ∧ ip = 8) then .error p else tg T k (p + 1) (if fp = 1 ∧ sgI (rd T p) fp = 1 then 1 else 0) (if dsI (rd T p) ip = 1 then 0 else ip + 1) (a ++ [lowL (rd T p)])
def rtE : Except Int (Int × Int × List Int) → Except Int (Int × List Int)
  | .error k => .error k
  | .ok (q, ip, l) => if ip = 0 then .error q else .ok (q, l)
def rt (T : List Int) (p : Int) : Except Int (Int × List Int) := rtE (tg T 17 p 1 0 [])
theorem tg_stop {T : List Int} {k : Nat} {p fp ip : Int} {a : List Int} (h : dsI (rd T p) ip = 0 ∧ sgI (rd T p) fp = 0) : tg T (k + 1) p fp ip a = .ok (p, ip, a) := by
  unfold tg
  rw [if_pos h]
theorem tg_bad {T : List Int} {k : Nat} {p fp ip : Int} {a : List Int} (h : ¬ (dsI (rd T p) ip = 0 ∧ sgI (rd T p) fp = 0)) (h2 : (a.length : Int) = 16 ∨ (sgI (rd T p) fp = 1 ∧ ip = 8)) : tg T (k + 1) p fp ip a = .error p := by
  unfold tg
  rw [if_neg h, if_pos h2]
theorem tg_step {T : List Int} {k : Nat} {p fp ip : Int} {a : List Int} (h : ¬ (dsI (rd T p) ip = 0 ∧ sgI (rd T p) fp = 0)) (h2 : ¬ ((a.length : Int) = 16 ∨ (sgI (rd T p) fp = 1 ∧ ip = 8))) : tg T (k + 1) p fp ip a = tg T k (p + 1) (if fp = 1 ∧ sgI (rd T p) fp = 1 then 1 else 0) (if dsI (rd T p) ip = 1 then 0 else ip + 1) (a ++ [lowL (rd T p)]) := by
  conv => lhs; unfold tg
  rw [if_neg h, if_neg h2]
theorem tg_rd {c fp ip : Int} (h : ¬ (dsI c ip = 0 ∧ sgI c fp = 0)) : c ≠ -1 := by
  intro e
  subst e
  apply h
  constructor
  · unfold dsI; rw [if_neg (by omega)]
  · unfold sgI; rw [if_neg (by omega)]
theorem lowL_rg {x : Int} (h : -1 ≤ x ∧ x < 256) : -2147483648 ≤ lowL x ∧ lowL x < 2147483648 := by
  unfold lowL
  split <;> omega
theorem rtE_congr {T : List Int} {p : Int} {r : Except Int (Int × Int × List Int)} (h : tg T 17 p 1 0 [] = r) : rt T p = rtE r := by
  unfold rt
  rw [h]
