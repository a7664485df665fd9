/-! the reference reads a tag -/
def fpI (pt : Int) : Int := if pt = 0 then 1 else 0
def TgI (T : List Int) (N p0 p f pt n mo tz : Int) (TA : Nat → Int32) : Prop := (0 ≤ p ∧ p ≤ N) ∧ (0 ≤ tz ∧ tz ≤ 16) ∧ p = p0 + tz ∧ (0 ≤ pt ∧ pt ≤ 17) ∧ (0 ≤ n ∧ n ≤ 9) ∧ (mo = 0 ∨ mo = 1) ∧ ((0 ≤ f ∧ f ≤ N ∧ tg T 17 p0 1 0 [] = .error f) ∨ (f = -1 ∧ n ≤ 8 ∧ pt ≤ tz ∧ mo = 1 ∧ tg T (17 - tz).toNat p (fpI pt) n (lst (tI TA) tz) = tg T 17 p0 1 0 []) ∨ (f = -1 ∧ mo = 0 ∧ tg T 17 p0 1 0 [] = .ok (p, n, lst (tI TA) tz)))
theorem TgI_f {T : List Int} {N p0 p f pt n mo tz : Int} {TA : Nat → Int32} (h : TgI T N p0 p f pt n mo tz TA) : (0 ≤ p ∧ p ≤ N) ∧ (0 ≤ tz ∧ tz ≤ 16) ∧ p = p0 + tz ∧ (0 ≤ pt ∧ pt ≤ 17) ∧ (0 ≤ n ∧ n ≤ 9) ∧ (mo = 0 ∨ mo = 1) ∧ (f = -1 ∨ (0 ≤ f ∧ f ≤ N)) := by
  obtain ⟨h1, h2, h3, h4, h5, h6, h7⟩ := h
  refine ⟨h1, h2, h3, h4, h5, h6, ?_⟩
  rcases h7 with a | a | a <;> omega
theorem TgI_live {T : List Int} {N p0 p f pt n mo tz : Int} {TA : Nat → Int32} (h : TgI T N p0 p f pt n mo tz TA) (hf : f < 0) (hm : mo ≠ 0) : f = -1 ∧ n ≤ 8 ∧ pt ≤ tz ∧ mo = 1 ∧ tg T (17 - tz).toNat p (fpI pt) n (lst (tI TA) tz) = tg T 17 p0 1 0 [] := by
  rcases h.2.2.2.2.2.2 with a | a | a
  · omega
  · exact a
  · omega
theorem sgI_y {c pt : Int} (h : isL c ∨ (0 < pt ∧ isG c)) : sgI c (fpI pt) = 1 := by
  unfold sgI fpI
  rw [if_pos]
  rcases h with h | h
  · exact Or.inl h
  · exact Or.inr ⟨h.2, if_neg (by omega)⟩
theorem sgI_n {c pt : Int} (h0 : 0 ≤ pt) (h : ¬ (isL c ∨ (0 < pt ∧ isG c))) : sgI c (fpI pt) = 0 := by
  unfold sgI fpI
  rw [if_neg]
  rintro (a | a)
  · exact h (Or.inl a)
  · by_cases e : pt = 0
    · rw [if_pos e] at a; exact absurd a.2 (by decide)
    · exact h (Or.inr ⟨by omega, a.1⟩)
theorem dsI_y {c n : Int} (h : c = 45) (hn : 0 < n) : dsI c n = 1 := if_pos ⟨h, hn⟩
theorem dsI_n {c n : Int} (h : ¬ (c = 45 ∧ 0 < n)) : dsI c n = 0 := if_neg h
theorem TgI_fail {T : List Int} {N p0 p f pt n mo tz f2 c pt2 n2 : Int} {TA : Nat → Int32} (h : TgI T N p0 p f pt n mo tz TA) (hf : f < 0) (hm : mo ≠ 0) (hc : c = rd T p) (hg : ((isL c ∨ (0 < pt ∧ isG c)) ∧ (n = 8 ∨ tz = 16)) ∨ ((c = 45 ∧ 0 < n) ∧ tz = 16)) (h2 : f2 = if f < 0 then p else f) (hp : 0 ≤ pt2 ∧ pt2 ≤ 17) (hn : 0 ≤ n2 ∧ n2 ≤ 9) : TgI T N p0 p f2 pt2 n2 mo tz TA := by
  obtain ⟨l1, l2, l3, l4, l5⟩ := TgI_live h hf hm
  obtain ⟨h1, h3, h4, h5, h6, h7, -⟩ := h
  rw [if_pos hf] at h2
  refine ⟨h1, h3, h4, hp, hn, h7, Or.inl ⟨by omega, by omega, ?_⟩⟩
  rw [← l5, show (17 - tz).toNat = (16 - tz).toNat + 1 by omega, h2]
  have hl : ((lst (tI TA) tz).length : Int) = tz := by rw [lst_length]; omega
  rcases hg with ⟨a, b⟩ | ⟨a, b⟩
  · have e := sgI_y a
    rw [hc] at e
    exact tg_bad (fun q => by rw [e] at q; exact absurd q.2 (by decide)) (by rw [hl, e]; omega)
  · have e := dsI_y a.1 a.2
    rw [hc] at e
    exact tg_bad (fun q => by rw [e] at q; exact absurd q.1 (by decide)) (by rw [hl]; omega)
theorem TgI_sign {T : List Int} {N p0 p f pt n mo tz c x : Int} {TA : Nat → Int32} (hL : (T.length : Int) = N) (h : TgI T N p0 p f pt n mo tz TA) (hf : f < 0) (hm : mo ≠ 0) (hc : c = rd T p) (hg : isL c ∨ (0 < pt ∧ isG c)) (hn : n ≠ 8) (ht : tz ≠ 16) (hx : x = lowL c) (hr : -2147483648 ≤ x ∧ x < 2147483648) : TgI T N p0 (p + 1) f pt (n + 1) mo (tz + 1) (fu TA tz x) := by
  obtain ⟨l1, l2, l3, l4, l5⟩ := TgI_live h hf hm
  obtain ⟨h1, h3, h4, h5, h6, h7, -⟩ := h
  have e := sgI_y hg
  have e2 : dsI c n = 0 := dsI_n (by omega)
  have e3 : (if fpI pt = 1 ∧ (1 : Int) = 1 then (1 : Int) else 0) = fpI pt := by
    unfold fpI
    by_cases q : pt = 0 <;> simp [q]
  rw [hc] at e e2
  have hl : ((lst (tI TA) tz).length : Int) = tz := by rw [lst_length]; omega
  have hlt := rd_lt (T := T) (p := p) (by rw [← hc]; omega)
  refine ⟨by omega, by omega, by omega, h5, by omega, h7, Or.inr (Or.inl ⟨l1, by omega, by omega, l4, ?_⟩)⟩
  rw [← l5, show (17 - tz).toNat = (17 - (tz + 1)).toNat + 1 by omega, tg_step (fun q => by rw [e] at q; exact absurd q.2 (by decide)) (by rw [hl, e]; omega), e, e2, e3, if_neg (show ¬ (0 : Int) = 1 by decide), lst_push TA h3.1 hr, hx, hc]
theorem TgI_dash {T : List Int} {N p0 p f pt n mo tz c x : Int} {TA : Nat → Int32} (hL : (T.length : Int) = N) (h : TgI T N p0 p f pt n mo tz TA) (hf : f < 0) (hm : mo ≠ 0) (hc : c = rd T p) (hg : c = 45) (hn : 0 < n) (ht : tz ≠ 16) (hx : x = lowL c) (hr : -2147483648 ≤ x ∧ x < 2147483648) : TgI T N p0 (p + 1) f (pt + 1) 0 mo (tz + 1) (fu TA tz x) := by
  obtain ⟨l1, l2, l3, l4, l5⟩ := TgI_live h hf hm
  obtain ⟨h1, h3, h4, h5, h6, h7, -⟩ := h
  have e : sgI c (fpI pt) = 0 := sgI_n h5.1 (by omega)
  have e2 := dsI_y hg hn
  rw [hc] at e e2
  have hl : ((lst (tI TA) tz).length : Int) = tz := by rw [lst_length]; omega
  have hlt := rd_lt (T := T) (p := p) (by rw [← hc]; omega)
  refine ⟨by omega, by omega, by omega, by omega, by omega, h7, Or.inr (Or.inl ⟨l1, by omega, by omega, l4, ?_⟩)⟩
  rw [← l5, show (17 - tz).toNat = (17 - (tz + 1)).toNat + 1 by omega, tg_step (fun q => by rw [e2] at q; exact absurd q.1 (by decide)) (by rw [hl, e]; omega), e, e2, if_pos rfl, if_neg (by omega), lst_push TA h3.1 hr, hx, hc]
  congr 1
  unfold fpI
  rw [if_neg (by omega)]
theorem TgI_stop {T : List Int} {N p0 p f pt n mo tz c : Int} {TA : Nat → Int32} (h : TgI T N p0 p f pt n mo tz TA) (hf : f < 0) (hm : mo ≠ 0) (hc : c = rd T p) (hg : ¬ (isL c ∨ (0 < pt ∧ isG c))) (hn : ¬ (c = 45 ∧ 0 < n)) : TgI T N p0 p f pt n 0 tz TA := by
  obtain ⟨l1, l2, l3, l4, l5⟩ := TgI_live h hf hm
  obtain ⟨h1, h3, h4, h5, h6, h7, -⟩ := h
  have e := sgI_n h5.1 hg
  have e2 := dsI_n hn
  rw [hc] at e e2
  refine ⟨h1, h3, h4, h5, h6, Or.inl rfl, Or.inr (Or.inr ⟨l1, rfl, ?_⟩)⟩
  rw [← l5, show (17 - tz).toNat = (16 - tz).toNat + 1 by omega, tg_stop ⟨e2, e⟩]
def ms2 (n p f mo : Int) : Nat := if f < 0 ∧ mo ≠ 0 then (n - p).toNat + 1 else 0
theorem ms2_dec {n p f mo p2 f2 mo2 : Int} {k : Nat} (hf : f < 0) (hmo : mo ≠ 0) (hm : ms2 n p f mo < k + 1) (h2 : 0 ≤ f2 ∨ mo2 = 0 ∨ (p < p2 ∧ p2 ≤ n)) : ms2 n p2 f2 mo2 < k := by
  unfold ms2 at hm ⊢
  rw [if_pos ⟨hf, hmo⟩] at hm
  split <;> omega
def TgO (T : List Int) (N p0 p f tz : Int) (TA : Nat → Int32) : Prop := (0 ≤ p ∧ p ≤ N) ∧ (0 ≤ tz ∧ tz ≤ 16) ∧ ((0 ≤ f ∧ f ≤ N ∧ rt T p0 = .error f) ∨ (f = -1 ∧ rt T p0 = .ok (p, lst (tI TA) tz)))
theorem TgO_dead {T : List Int} {N p0 p f pt n mo tz : Int} {TA : Nat → Int32} (h : TgI T N p0 p f pt n mo tz TA) (hf : 0 ≤ f) : TgO T N p0 p f tz TA := by
  rcases h.2.2.2.2.2.2 with a | a | a
  · exact ⟨h.1, h.2.1, Or.inl ⟨a.1, a.2.1, by rw [rtE_congr a.2.2]; rfl⟩⟩
  · omega
  · omega
theorem TgO_end {T : List Int} {N p0 p f pt n mo tz : Int} {TA : Nat → Int32} (h : TgI T N p0 p f pt n mo tz TA) (hf : f < 0) (hm : mo = 0) : f = -1 ∧ rt T p0 = (if n = 0 then .error p else .ok (p, lst (tI TA) tz)) := by
  rcases h.2.2.2.2.2.2 with a | a | a
  · omega
  · omega
  · exact ⟨a.1, by rw [rtE_congr a.2.2]; rfl⟩
theorem TgO_0 {T : List Int} {N p0 p f pt n mo tz f2 : Int} {TA : Nat → Int32} (h : TgI T N p0 p f pt n mo tz TA) (hf : f < 0) (hm : mo = 0) (hn : n = 0) (h2 : f2 = if f < 0 then p else f) : TgO T N p0 p f2 tz TA := by
  have e := TgO_end h hf hm
  have hp := h.1
  rw [if_pos hn] at e
  rw [if_pos hf] at h2
  exact ⟨h.1, h.2.1, Or.inl ⟨by omega, by omega, by rw [e.2, h2]⟩⟩
theorem TgO_1 {T : List Int} {N p0 p f pt n mo tz : Int} {TA : Nat → Int32} (h : TgI T N p0 p f pt n mo tz TA) (hf : f < 0) (hm : mo = 0) (hn : n ≠ 0) : TgO T N p0 p f tz TA := by
  have e := TgO_end h hf hm
  rw [if_neg hn] at e
  exact ⟨h.1, h.2.1, Or.inr e⟩
/-! a label -/
def stp (T : List Int) (a : Int) : Nat → Int
  | 0 => a
  | k + 1 => if rd T (a + (k : Int)) = 46 then stp T a k else a + (k : Int) + 1
theorem stp_s {T : List Int} {a t : Int} (h : a ≤ t) : stp T a (t + 1 - a).toNat = if rd T t = 46 then stp T a (t - a).toNat else t + 1 := by
  rw [show (t + 1 - a).toNat = (t - a).toNat + 1 by omega, stp, show a + ((t - a).toNat : Int) = t by omega]
theorem stp_w {T : List Int} {a t E : Int} (h : a ≤ t) (hw : nmE T t (stp T a (t - a).toNat) = E) (hn : isNm (rd T t)) : nmE T (t + 1) (stp T a (t + 1 - a).toNat) = E := by
  rw [← hw, nmE_b hn, stp_s h]
theorem stp_d {T : List Int} {a t E : Int} (h : a < t) (hw : stp T a (t - a).toNat = E) (hn : rd T (t - 1) = 46) : stp T a (t + (-1) - a).toNat = E := by
  have := stp_s (T := T) (a := a) (t := t - 1) (by omega)
  rw [show t - 1 + 1 - a = t - a by omega, if_pos hn, show t - 1 - a = t + (-1) - a by omega] at this
  rw [← this]
  exact hw
theorem stp_e0 {T : List Int} {a t E : Int} (h : a = t) (hw : stp T a (t - a).toNat = E) : t = E := by
  rw [show (t - a).toNat = 0 by omega, stp] at hw
  omega
theorem stp_e1 {T : List Int} {a t E : Int} (h : a < t) (hw : stp T a (t - a).toNat = E) (hn : rd T (t - 1) ≠ 46) : t = E := by
  have := stp_s (T := T) (a := a) (t := t - 1) (by omega)
  rw [show t - 1 + 1 - a = t - a by omega, if_neg hn, hw] at this
  omega
/-- behind the colon: q the name's start, t its end -/
def LbI (T : List Int) (N p q t f : Int) : Prop := (0 ≤ f ∧ f ≤ N ∧ lb T p = .error f) ∨ (f = -1 ∧ q = p + 2 ∧ q ≤ t ∧ t ≤ N ∧ t - q ≤ 12 ∧ lb T p = .ok (t, lst (fun i => rd T (q + i)) (t - q)))
theorem lb_58 {T : List Int} {p : Int} (h : rd T (p + 1) = 58) : lb T p = lbE T (p + 2) (nmS T (p + 2)) := if_pos h
theorem lb_n58 {T : List Int} {p : Int} (h : rd T (p + 1) ≠ 58) : lb T p = .error (p + 1) := if_neg h
theorem LbI_q {T : List Int} {N p q t f f2 : Int} (hq : q = p + 2) (h0 : 0 ≤ q ∧ q ≤ N) (h : rd T (p + 1) = 58) (hf : f < 0) (ht : t = nmE T q q) (hg : t = q ∨ rd T q = 45 ∨ rd T q = 46) (h2 : f2 = if f < 0 then q else f) : LbI T N p q t f2 := by
  rw [if_pos hf] at h2
  refine Or.inl ⟨by omega, by omega, ?_⟩
  have e : nmS T q = q := by
    unfold nmS
    by_cases c : rd T q = 45 ∨ rd T q = 46
    · rw [if_pos c]
    · rw [if_neg c, ← ht]; omega
  rw [lb_58 h, ← hq, e, lbE, if_pos rfl, h2]
theorem LbI_12 {T : List Int} {N p q t f f2 : Int} (hL : (T.length : Int) = N) (hq : q = p + 2) (h0 : 0 ≤ q) (htN : t ≤ N) (h : rd T (p + 1) = 58) (hf : f < 0) (ht : t = nmE T q q) (hg : t ≠ q ∧ rd T q ≠ 45 ∧ rd T q ≠ 46) (h12 : 12 < t - q) (h2 : f2 = if f < 0 then q + 12 else f) : LbI T N p q t f2 := by
  rw [if_pos hf] at h2
  refine Or.inl ⟨by omega, by omega, ?_⟩
  have e : nmS T q = t := by
    unfold nmS
    rw [if_neg (by omega), ht]
  rw [lb_58 h, ← hq, e, lbE, if_neg hg.1, if_pos h12, h2]
theorem LbI_ok {T : List Int} {N p q t f : Int} (hq : q = p + 2) (hqt : q ≤ t) (htN : t ≤ N) (h : rd T (p + 1) = 58) (hf : f = -1) (ht : t = nmE T q q) (hg : t ≠ q ∧ rd T q ≠ 45 ∧ rd T q ≠ 46) (h12 : t - q ≤ 12) : LbI T N p q t f := by
  refine Or.inr ⟨hf, hq, hqt, htN, h12, ?_⟩
  have e : nmS T q = t := by
    unfold nmS
    rw [if_neg (by omega), ht]
  rw [lb_58 h, ← hq, e, lbE, if_neg hg.1, if_neg (by omega)]
theorem LbI_f {T : List Int} {N p q t f : Int} (h : LbI T N p q t f) : (0 ≤ f ∧ f ≤ N) ∨ (f = -1 ∧ q = p + 2 ∧ q ≤ t ∧ t ≤ N ∧ t - q ≤ 12) := by
  rcases h with a | a
  · exact Or.inl ⟨a.1, a.2.1⟩
  · exact Or.inr ⟨a.1, a.2.1, a.2.2.1, a.2.2.2.1, a.2.2.2.2.1⟩
theorem RsM_lab {T : List Int} {n p q t f2 p2 sz ov ov2 z fr : Int} {MD : Nat → Int32} {ts2 ts : List Tm} {G : List Int} (hG : G = []) (hfr : 0 ≤ fr) (hov : ov = 0 ∨ ov = 1) (h0 : 0 ≤ p2 ∧ p2 ≤ n) (h : LbI T n p q t f2) (hl : f2 < 0 → p2 = t ∧ lst (tI MD) sz = lst (fun i => rd T (q + i)) (t - q)) (hn : (f2 < 0 ∧ ov = 0 ∧ nOutM ts2 ov2 z ts fr (1, lst (tI MD) sz, G, -1)) ∨ (¬ (f2 < 0 ∧ ov = 0) ∧ z = 0 ∧ ov2 = ov ∧ ts2 = ts)) : RsM n (-1) p2 f2 ov (mapL (lb T p)) z ov2 ts2 ts fr := by
  subst hG
  refine ⟨h0, ?_⟩
  rcases h with a | a
  · rcases hn with b | b
    · omega
    · exact Or.inr (Or.inl ⟨rfl, ⟨f2, by rw [a.2.2]; rfl, rfl, a.1, a.2.1⟩, b.2⟩)
  · have hl := hl (by omega)
    refine Or.inr (Or.inr ⟨rfl, t, (1, lst (tI MD) sz, [], none), by rw [a.2.2.2.2.2, hl.2]; rfl, a.1, hl.1, ?_⟩)
    rcases hn with b | b
    · rcases itn_M hfr b.2.2 with c | c
      · exact Or.inr (Or.inl ⟨b.2.1, c.1, c.2.1⟩)
      · exact Or.inr (Or.inr ⟨b.2.1, c.1, c.2.1, ⟨[], by rw [c.2.2, List.append_nil]⟩⟩)
    · exact Or.inl ⟨by omega, b.2.1, by omega, b.2.2.2⟩
