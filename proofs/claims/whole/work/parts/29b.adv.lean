/-! a reading goes forward -/
theorem cd_ge {T : List Int} {kd : Int} : ∀ (k : Nat) (p : Int) (a : List Int) (q : Int) (l : List Int), 0 ≤ p → cd T kd k p a = .ok (q, l) → p ≤ q := by
  intro k
  induction k with
  | zero =>
    intro p a q l h0 h
    rw [cd_stop (Or.inl rfl)] at h
    injection h with h
    injection h with h1 h2
    omega
  | succ k ih =>
    intro p a q l h0 h
    by_cases h1 : rd T p = clo kd
    · rw [cd_stop (Or.inr h1)] at h
      injection h with h
      injection h with h1 h2
      omega
    · by_cases h2 : k1P T kd p
      · rw [cd_step h1 h2] at h
        have hb := b1_le h2 h0
        have := ih _ _ _ _ (by omega) h
        omega
      · rw [cd_bad h1 h2] at h
        injection h
theorem rc_ge {T : List Int} {kd p q : Int} {l : List Int} (h0 : 0 ≤ p) (h : rc T kd p = .ok (q, l)) : p ≤ q := by
  by_cases ho : rd T p = opn kd
  · rw [rc_of ho rfl] at h
    cases hc : cd T kd 40 (p + 1) [] with
    | error k => rw [hc] at h; injection h
    | ok d =>
      obtain ⟨x, l2⟩ := d
      have hg := cd_ge 40 (p + 1) [] x l2 (by omega) hc
      rw [hc] at h
      by_cases a1 : kd = 0 ∧ l2 = []
      · rw [rcE_0 a1] at h; injection h
      · by_cases a2 : rd T x = clo kd
        · rw [rcE_1 a1 a2] at h
          injection h with h
          injection h with h1 h2
          omega
        · rw [rcE_2 a1 a2] at h; injection h
  · rw [rc_no ho] at h
    injection h
theorem tg_ge {T : List Int} : ∀ (k : Nat) (p fp ip : Int) (a : List Int) (q ip2 : Int) (l : List Int), tg T k p fp ip a = .ok (q, ip2, l) → p ≤ q := by
  intro k
  induction k with
  | zero =>
    intro p fp ip a q ip2 l h
    unfold tg at h
    injection h with h
    injection h with h1 h2
    omega
  | succ k ih =>
    intro p fp ip a q ip2 l h
    by_cases h1 : dsI (rd T p) ip = 0 ∧ sgI (rd T p) fp = 0
    · rw [tg_stop h1] at h
      injection h with h
      injection h with h1 h2
      omega
    · by_cases h2 : (a.length : Int) = 16 ∨ (sgI (rd T p) fp = 1 ∧ ip = 8)
      · rw [tg_bad h1 h2] at h
        injection h
      · rw [tg_step h1 h2] at h
        have := ih _ _ _ _ _ _ _ h
        omega
theorem rt_ge {T : List Int} {p q : Int} {l : List Int} (h : rt T p = .ok (q, l)) : p ≤ q := by
  cases hc : tg T 17 p 1 0 [] with
  | error k => rw [rtE_congr hc] at h; injection h
  | ok d =>
    obtain ⟨x, ip, l2⟩ := d
    have hg := tg_ge 17 p 1 0 [] x ip l2 hc
    rw [rtE_congr hc] at h
    have h : (if ip = 0 then Except.error x else Except.ok (x, l2)) = Except.ok (q, l) := h
    by_cases a1 : ip = 0
    · rw [if_pos a1] at h; injection h
    · rw [if_neg a1] at h
      injection h with h
      injection h with h1 h2
      omega
theorem nmE_ge {T : List Int} : ∀ (n : Nat) (i e : Int), (T.length - i).toNat ≤ n → e ≤ i → e ≤ nmE T i e := by
  intro n
  induction n with
  | zero =>
    intro i e hn he
    have hr : rd T i = -1 := by
      by_cases h0 : 0 ≤ i
      · exact rd_end (by omega)
      · exact rd_neg (by omega)
    rw [nmE_e (by rw [hr]; omega)]
    omega
  | succ n ih =>
    intro i e hn he
    by_cases h : isNm (rd T i)
    · have hl := rd_lt (T := T) (p := i) (by omega)
      rw [nmE_b h]
      by_cases h2 : rd T i = 46
      · rw [if_pos h2]
        exact ih _ _ (by omega) (by omega)
      · rw [if_neg h2]
        have := ih (i + 1) (i + 1) (by omega) (by omega)
        omega
    · rw [nmE_e h]
      omega
theorem nmS_ge (T : List Int) (q : Int) : q ≤ nmS T q := by
  unfold nmS
  split
  · omega
  · exact nmE_ge _ _ _ (Nat.le_refl _) (Int.le_refl _)
theorem lb_ge {T : List Int} {p q : Int} {l : List Int} (h : lb T p = .ok (q, l)) : p ≤ q := by
  have hn := nmS_ge T (p + 2)
  unfold lb at h
  by_cases h1 : rd T (p + 1) = 58
  · rw [if_pos h1] at h
    unfold lbE at h
    by_cases h2 : nmS T (p + 2) = p + 2
    · rw [if_pos h2] at h; injection h
    · rw [if_neg h2] at h
      by_cases h3 : 12 < nmS T (p + 2) - (p + 2)
      · rw [if_pos h3] at h; injection h
      · rw [if_neg h3] at h
        injection h with h
        injection h with h4 h5
        omega
  · rw [if_neg h1] at h
    injection h
theorem lit_ge {T : List Int} {p q : Int} {m : Stm} (h0 : 0 ≤ p) (h : lit T p = .ok (q, m)) : p ≤ q := by
  cases hc : rc T 2 p with
  | error k => rw [lit_err hc] at h; injection h
  | ok d =>
    obtain ⟨x, l⟩ := d
    have hg := rc_ge h0 hc
    rw [lit_ok hc rfl] at h
    unfold litE at h
    by_cases h1 : rd T x = 64
    · rw [if_pos h1] at h
      cases ht : rt T (x + 1) with
      | error k => rw [ht] at h; injection h
      | ok d =>
        obtain ⟨y, g⟩ := d
        have := rt_ge ht
        rw [ht] at h
        injection h with h
        injection h with h4 h5
        omega
    · rw [if_neg h1] at h
      by_cases h2 : rd T x = 94
      · rw [if_pos h2] at h
        by_cases h3 : rd T (x + 1) = 94
        · rw [if_pos h3] at h
          cases ht : rc T 0 (x + 2) with
          | error k => rw [ht] at h; injection h
          | ok d =>
            obtain ⟨y, g⟩ := d
            have := rc_ge (by omega) ht
            rw [ht] at h
            injection h with h
            injection h with h4 h5
            omega
        · rw [if_neg h3] at h; injection h
      · rw [if_neg h2] at h
        injection h with h
        injection h with h4 h5
        omega
theorem rtm_ge {T : List Int} {lk p q : Int} {m : Stm} (h0 : 0 ≤ p) (h : rtm T lk p = .ok (q, m)) : p ≤ q := by
  unfold rtm at h
  by_cases h1 : rd T p = 60
  · rw [if_pos h1] at h
    cases hc : rc T 0 p with
    | error k => rw [hc] at h; injection h
    | ok d =>
      obtain ⟨x, l⟩ := d
      have := rc_ge h0 hc
      rw [hc] at h
      injection h with h
      injection h with h4 h5
      omega
  · rw [if_neg h1] at h
    by_cases h2 : rd T p = 95 ∧ 1 ≤ lk
    · rw [if_pos h2] at h
      cases hc : lb T p with
      | error k => rw [hc] at h; injection h
      | ok d =>
        obtain ⟨x, l⟩ := d
        have := lb_ge hc
        rw [hc] at h
        injection h with h
        injection h with h4 h5
        omega
    · rw [if_neg h2] at h
      by_cases h3 : rd T p = 34 ∧ 2 ≤ lk
      · rw [if_pos h3] at h
        exact lit_ge h0 h
      · rw [if_neg h3] at h
        injection h
theorem bl_ge0 {T : List Int} : ∀ (n : Nat) (p : Int), (T.length - p).toNat ≤ n → p ≤ bl T p := by
  intro n
  induction n with
  | zero =>
    intro p hn
    have hr : rd T p = -1 := by
      by_cases h0 : 0 ≤ p
      · exact rd_end (by omega)
      · exact rd_neg (by omega)
    rw [bl_e (by rw [hr]; omega)]
    omega
  | succ n ih =>
    intro p hn
    by_cases h : isB (rd T p)
    · have hl := rd_lt (T := T) (p := p) (by omega)
      rw [bl_b h]
      have := ih (p + 1) (by omega)
      omega
    · rw [bl_e h]
      omega
theorem bl_ge (T : List Int) (p : Int) : p ≤ bl T p := bl_ge0 _ p (Nat.le_refl _)
theorem rst_ge {T : List Int} {p q : Int} {s : Stm × Stm × Stm × Option Stm} (h0 : 0 ≤ p) (h : rst T p = .ok (q, s)) : p ≤ q := by
  cases a1 : rtm T 1 p with
  | error k => rw [rst_e1 a1] at h; injection h
  | ok d =>
    obtain ⟨q1, s1⟩ := d
    have g1 := rtm_ge h0 a1
    have b1 := bl_ge T q1
    cases a2 : rtm T 0 (bl T q1) with
    | error k => rw [rst_e2 a1 rfl rfl a2] at h; injection h
    | ok d =>
      obtain ⟨q2, s2⟩ := d
      have g2 := rtm_ge (by omega) a2
      have b2 := bl_ge T q2
      cases a3 : rtm T 2 (bl T q2) with
      | error k => rw [rst_e3 a1 rfl rfl a2 rfl rfl a3] at h; injection h
      | ok d =>
        obtain ⟨q3, s3⟩ := d
        have g3 := rtm_ge (by omega) a3
        have b3 := bl_ge T q3
        by_cases e : rd T (bl T q3) = 46
        · rw [rst_o a1 rfl rfl a2 rfl rfl a3 rfl rfl (rst4_dot e)] at h
          injection h with h
          injection h with h4 h5
          omega
        · cases a4 : rtm T 1 (bl T q3) with
          | error k => rw [rst_o a1 rfl rfl a2 rfl rfl a3 rfl rfl (rst4_ge e a4)] at h; injection h
          | ok d =>
            obtain ⟨q4, s4⟩ := d
            have g4 := rtm_ge (by omega) a4
            have b4 := bl_ge T q4
            by_cases e2 : rd T (bl T q4) = 46
            · rw [rst_o a1 rfl rfl a2 rfl rfl a3 rfl rfl (rst4_gd e a4 rfl rfl e2)] at h
              injection h with h
              injection h with h4 h5
              omega
            · rw [rst_o a1 rfl rfl a2 rfl rfl a3 rfl rfl (rst4_gn e a4 rfl rfl e2)] at h
              injection h
