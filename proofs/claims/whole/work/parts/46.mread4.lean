/-! the reference reads a statement -/
theorem itT_1f {ts : List Tm} {fr : Int} {m : Stm} : (itT ts 1 fr m).2.1 = 1 := by
  unfold itT
  split
  · exact itn_1
  · rw [itn_1]
    exact itn_1
theorem RsM_ok {n p1 f1 ov z ov1 fr : Int} {r : Except Int (Int × Stm)} {ts1 ts : List Tm} (h : RsM n (-1) p1 f1 ov r z ov1 ts1 ts fr) (hf : f1 < 0) : f1 = -1 ∧ ∃ m, r = .ok (p1, m) ∧ mT ts1 ov1 z ts ov fr m := by
  rcases h.2 with a | ⟨a, ⟨k, b⟩, c⟩ | ⟨a, q, m, b, c, d, e⟩
  · omega
  · omega
  · exact ⟨c, m, by rw [b, d], e⟩
theorem RsM_err {n p1 f1 ov z ov1 fr : Int} {r : Except Int (Int × Stm)} {ts1 ts : List Tm} (h : RsM n (-1) p1 f1 ov r z ov1 ts1 ts fr) (hf : 0 ≤ f1) : r = .error f1 ∧ f1 ≤ n := by
  rcases h.2 with a | ⟨a, ⟨k, b⟩, c⟩ | ⟨a, q, m, b, c, d, e⟩
  · omega
  · exact ⟨by rw [b.1, b.2.1], by omega⟩
  · omega
theorem mT_11 {ts2 ts : List Tm} {ov2 z fr : Int} {m : Stm} (h : mT ts2 ov2 z ts 1 fr m) : ov2 = 1 ∧ ts2 = ts := by
  rcases h with a | a | a
  · exact ⟨a.2.2.1, a.2.2.2⟩
  · omega
  · omega
theorem mT_01 {ts2 ts : List Tm} {ov2 z fr : Int} {m : Stm} (h : mT ts2 ov2 z ts 0 fr m) : (ov2 = 0 ∧ (ts2, 0, z) = itT ts 0 fr m) ∨ (ov2 = 1 ∧ (itT ts 0 fr m).2.1 = 1) := by
  rcases h with a | a | a
  · omega
  · exact Or.inl a.2
  · exact Or.inr ⟨a.2.1, a.2.2.1⟩
def ac3 (ts ts3 : List Tm) (ov ov3 zs zv zo fr : Int) (s v o : Stm) : Prop := (ov = 1 ∧ ov3 = 1 ∧ ts3 = ts) ∨ (ov = 0 ∧ ov3 = 0 ∧ ∃ t1 t2, (t1, 0, zs) = itT ts 0 fr s ∧ (t2, 0, zv) = itT t1 0 fr v ∧ (ts3, 0, zo) = itT t2 0 fr o) ∨ (ov = 0 ∧ ov3 = 1 ∧ (itT (itT (itT ts 0 fr s).1 (itT ts 0 fr s).2.1 fr v).1 (itT (itT ts 0 fr s).1 (itT ts 0 fr s).2.1 fr v).2.1 fr o).2.1 = 1)
theorem ac3_of {ts ts1 ts2 ts3 : List Tm} {ov ov1 ov2 ov3 zs zv zo fr : Int} {s v o : Stm} (hov : ov = 0 ∨ ov = 1) (m1 : mT ts1 ov1 zs ts ov fr s) (m2 : mT ts2 ov2 zv ts1 ov1 fr v) (m3 : mT ts3 ov3 zo ts2 ov2 fr o) : ac3 ts ts3 ov ov3 zs zv zo fr s v o := by
  rcases hov with rfl | rfl
  · rcases mT_01 m1 with ⟨rfl, e1⟩ | ⟨rfl, e1⟩
    · rcases mT_01 m2 with ⟨rfl, e2⟩ | ⟨rfl, e2⟩
      · rcases mT_01 m3 with ⟨rfl, e3⟩ | ⟨rfl, e3⟩
        · exact Or.inr (Or.inl ⟨rfl, rfl, _, _, e1, e2, e3⟩)
        · refine Or.inr (Or.inr ⟨rfl, rfl, ?_⟩)
          rw [← e1]
          show (itT (itT ts1 0 fr v).1 (itT ts1 0 fr v).2.1 fr o).2.1 = 1
          rw [← e2]
          exact e3
      · obtain ⟨rfl, -⟩ := mT_11 m3
        refine Or.inr (Or.inr ⟨rfl, rfl, ?_⟩)
        rw [← e1]
        show (itT (itT ts1 0 fr v).1 (itT ts1 0 fr v).2.1 fr o).2.1 = 1
        rw [e2]
        exact itT_1f
    · obtain ⟨rfl, -⟩ := mT_11 m2
      obtain ⟨rfl, -⟩ := mT_11 m3
      refine Or.inr (Or.inr ⟨rfl, rfl, ?_⟩)
      rw [e1, itT_1f]
      exact itT_1f
  · obtain ⟨rfl, e1⟩ := mT_11 m1
    obtain ⟨rfl, e2⟩ := mT_11 m2
    obtain ⟨rfl, e3⟩ := mT_11 m3
    exact Or.inl ⟨rfl, rfl, by rw [e3, e2, e1]⟩
/-- behind the three parts -/
def A3 (T : List Int) (n p pc f ov ov3 zs zv zo : Int) (ts3 ts : List Tm) (fr : Int) : Prop := (0 ≤ f ∧ f ≤ n ∧ rst T p = .error f) ∨ (f = -1 ∧ ∃ s v o q1 q2, rtm T 1 p = .ok (q1, s) ∧ rtm T 0 (bl T q1) = .ok (q2, v) ∧ rtm T 2 (bl T q2) = .ok (pc, o) ∧ ac3 ts ts3 ov ov3 zs zv zo fr s v o)
section A3
variable {T : List Int} {n p p1 f1 p2 f2 p3 f3 ov ov1 ov2 ov3 zs zv zo fr : Int} {ts ts1 ts2 ts3 : List Tm}
theorem A3_e1 (h1 : RsM n (-1) p1 f1 ov (rtm T 1 p) zs ov1 ts1 ts fr) (hf : 0 ≤ f1) : 0 ≤ f1 ∧ f1 ≤ n ∧ rst T p = .error f1 := ⟨hf, (RsM_err h1 hf).2, rst_e1 (RsM_err h1 hf).1⟩
theorem A3_e2 (h1 : RsM n (-1) p1 f1 ov (rtm T 1 p) zs ov1 ts1 ts fr) (hf : f1 < 0) (h2 : RsM n (-1) p2 f2 ov1 (rtm T 0 (bl T p1)) zv ov2 ts2 ts1 fr) (hg : 0 ≤ f2) : 0 ≤ f2 ∧ f2 ≤ n ∧ rst T p = .error f2 := by
  obtain ⟨-, s, a1, -⟩ := RsM_ok h1 hf
  exact ⟨hg, (RsM_err h2 hg).2, rst_e2 a1 rfl rfl (RsM_err h2 hg).1⟩
theorem A3_e3 (h1 : RsM n (-1) p1 f1 ov (rtm T 1 p) zs ov1 ts1 ts fr) (hf : f1 < 0) (h2 : RsM n (-1) p2 f2 ov1 (rtm T 0 (bl T p1)) zv ov2 ts2 ts1 fr) (hg : f2 < 0) (h3 : RsM n (-1) p3 f3 ov2 (rtm T 2 (bl T p2)) zo ov3 ts3 ts2 fr) (hh : 0 ≤ f3) : 0 ≤ f3 ∧ f3 ≤ n ∧ rst T p = .error f3 := by
  obtain ⟨-, s, a1, -⟩ := RsM_ok h1 hf
  obtain ⟨-, v, a2, -⟩ := RsM_ok h2 hg
  exact ⟨hh, (RsM_err h3 hh).2, rst_e3 a1 rfl rfl a2 rfl rfl (RsM_err h3 hh).1⟩
theorem A3_ok (hov : ov = 0 ∨ ov = 1) (h1 : RsM n (-1) p1 f1 ov (rtm T 1 p) zs ov1 ts1 ts fr) (hf : f1 < 0) (h2 : RsM n (-1) p2 f2 ov1 (rtm T 0 (bl T p1)) zv ov2 ts2 ts1 fr) (hg : f2 < 0) (h3 : RsM n (-1) p3 f3 ov2 (rtm T 2 (bl T p2)) zo ov3 ts3 ts2 fr) (hh : f3 < 0) : A3 T n p p3 f3 ov ov3 zs zv zo ts3 ts fr := by
  obtain ⟨-, s, a1, m1⟩ := RsM_ok h1 hf
  obtain ⟨-, v, a2, m2⟩ := RsM_ok h2 hg
  obtain ⟨e3, o, a3, m3⟩ := RsM_ok h3 hh
  exact Or.inr ⟨e3, s, v, o, _, _, a1, a2, a3, ac3_of hov m1 m2 m3⟩
end A3
def ac4 (ts ts4 : List Tm) (ov ov4 zs zv zo zg fr : Int) (s v o : Stm) (g : Option Stm) : Prop := (ov = 1 ∧ ov4 = 1 ∧ ts4 = ts) ∨ (ov = 0 ∧ ov4 = 0 ∧ ∀ qs, itS ts 0 fr qs 0 s v o g = fin ts4 0 qs 0 (zs, zv, zo, zg)) ∨ (ov = 0 ∧ ov4 = 1 ∧ ∀ qs, (itS ts 0 fr qs 0 s v o g).2.1 = 1)
def A4 (T : List Int) (n p pc f ov ov4 zs zv zo zg : Int) (ts4 ts : List Tm) (fr : Int) : Prop := (0 ≤ f ∧ f ≤ n ∧ rst T p = .error f) ∨ (f = -1 ∧ ∃ s v o g, (rd T pc = 46 → rst T p = .ok (pc + 1, s, v, o, g)) ∧ (rd T pc ≠ 46 → rst T p = .error pc) ∧ ac4 ts ts4 ov ov4 zs zv zo zg fr s v o g)
theorem fin_fl {ts : List Tm} {fl qf : Int} {qs : List Qd} {v : Qd} : (fin ts fl qs qf v).2.1 = fl := by
  unfold fin
  split <;> rfl
theorem ac4_none {ts ts3 : List Tm} {ov ov3 zs zv zo fr : Int} {s v o : Stm} (h : ac3 ts ts3 ov ov3 zs zv zo fr s v o) : ac4 ts ts3 ov ov3 zs zv zo (-1) fr s v o none := by
  rcases h with a | ⟨a, b, t1, t2, e1, e2, e3⟩ | ⟨a, b, c⟩
  · exact Or.inl a
  · exact Or.inr (Or.inl ⟨a, b, fun qs => itS_none e1 e2 e3⟩)
  · exact Or.inr (Or.inr ⟨a, b, fun qs => fin_fl.trans c⟩)
theorem ac4_some {ts ts3 ts4 : List Tm} {ov ov3 ov4 zs zv zo zg fr : Int} {s v o g : Stm} (h : ac3 ts ts3 ov ov3 zs zv zo fr s v o) (m : mT ts4 ov4 zg ts3 ov3 fr g) : ac4 ts ts4 ov ov4 zs zv zo zg fr s v o (some g) := by
  rcases h with ⟨a, rfl, c⟩ | ⟨a, rfl, t1, t2, e1, e2, e3⟩ | ⟨a, rfl, c⟩
  · obtain ⟨rfl, e⟩ := mT_11 m
    exact Or.inl ⟨a, rfl, by rw [e, c]⟩
  · rcases mT_01 m with ⟨rfl, e4⟩ | ⟨rfl, e4⟩
    · exact Or.inr (Or.inl ⟨a, rfl, fun qs => itS_some e1 e2 e3 e4⟩)
    · refine Or.inr (Or.inr ⟨a, rfl, fun qs => ?_⟩)
      have e := itS_some (qs := qs) (qf := 0) (g := g) (z4 := (itT ts3 0 fr g).2.2) (t4 := (itT ts3 0 fr g).1) (f4 := (itT ts3 0 fr g).2.1) e1 e2 e3 rfl
      rw [e, fin_fl]
      exact e4
  · obtain ⟨rfl, -⟩ := mT_11 m
    refine Or.inr (Or.inr ⟨a, rfl, fun qs => ?_⟩)
    refine fin_fl.trans ?_
    show (itT _ (itT (itT (itT ts 0 fr s).1 (itT ts 0 fr s).2.1 fr v).1 (itT (itT ts 0 fr s).1 (itT ts 0 fr s).2.1 fr v).2.1 fr o).2.1 fr g).2.1 = 1
    rw [c]
    exact itT_1f
section A4
variable {T : List Int} {n p pc pb p4 p6 f f4 c ov ov3 ov4 zs zv zo zg fr : Int} {ts ts3 ts4 : List Tm}
theorem A4_dead (h : A3 T n p pc f ov ov3 zs zv zo ts3 ts fr) (hf : 0 ≤ f) : A4 T n p pb f ov ov3 zs zv zo (-1) ts3 ts fr := by
  rcases h with a | a
  · exact Or.inl a
  · have := a.1; omega
theorem A3_live (h : A3 T n p pc f ov ov3 zs zv zo ts3 ts fr) (hf : f < 0) : f = -1 ∧ ∃ s v o q1 q2, rtm T 1 p = .ok (q1, s) ∧ rtm T 0 (bl T q1) = .ok (q2, v) ∧ rtm T 2 (bl T q2) = .ok (pc, o) ∧ ac3 ts ts3 ov ov3 zs zv zo fr s v o := by
  rcases h with a | a
  · omega
  · exact a
theorem A4_dot (h : A3 T n p pc f ov ov3 zs zv zo ts3 ts fr) (hf : f < 0) (hb : pb = bl T pc) (hc : c = rd T pb) (h46 : c = 46) : A4 T n p pb f ov ov3 zs zv zo (-1) ts3 ts fr := by
  obtain ⟨e, s, v, o, q1, q2, a1, a2, a3, a4⟩ := A3_live h hf
  exact Or.inr ⟨e, s, v, o, none, fun hd => rst_o a1 rfl rfl a2 rfl rfl a3 rfl hb (rst4_dot hd), fun hd => absurd (hc.symm.trans h46) hd, ac4_none a4⟩
theorem A4_ge (h : A3 T n p pc f ov ov3 zs zv zo ts3 ts fr) (hf : f < 0) (hb : pb = bl T pc) (hB : ¬ isB (rd T pb)) (hc : c = rd T pb) (h46 : c ≠ 46) (hr : RsM n (-1) p4 f4 ov3 (rtm T 1 (bl T pb)) zg ov4 ts4 ts3 fr) (hg : 0 ≤ f4) : A4 T n p p6 f4 ov ov4 zs zv zo zg ts4 ts fr := by
  obtain ⟨e, s, v, o, q1, q2, a1, a2, a3, a4⟩ := A3_live h hf
  rw [bl_e hB] at hr
  exact Or.inl ⟨hg, (RsM_err hr hg).2, rst_o a1 rfl rfl a2 rfl rfl a3 rfl hb (rst4_ge (by rw [← hc]; exact h46) (RsM_err hr hg).1)⟩
theorem A4_g (h : A3 T n p pc f ov ov3 zs zv zo ts3 ts fr) (hf : f < 0) (hb : pb = bl T pc) (hB : ¬ isB (rd T pb)) (hc : c = rd T pb) (h46 : c ≠ 46) (hr : RsM n (-1) p4 f4 ov3 (rtm T 1 (bl T pb)) zg ov4 ts4 ts3 fr) (hg : f4 < 0) (h6 : p6 = bl T p4) : A4 T n p p6 f4 ov ov4 zs zv zo zg ts4 ts fr := by
  obtain ⟨e, s, v, o, q1, q2, a1, a2, a3, a4⟩ := A3_live h hf
  rw [bl_e hB] at hr
  obtain ⟨e4, g, b1, b2⟩ := RsM_ok hr hg
  have hn : rd T pb ≠ 46 := by rw [← hc]; exact h46
  exact Or.inr ⟨e4, s, v, o, some g, fun hd => rst_o a1 rfl rfl a2 rfl rfl a3 rfl hb (rst4_gd hn b1 rfl h6 hd), fun hd => rst_o a1 rfl rfl a2 rfl rfl a3 rfl hb (rst4_gn hn b1 rfl h6 hd), ac4_some a4 b2⟩
end A4
/-- what a statement's reading gives -/
def StO (T : List Int) (n p p2 f2 ov ov2 : Int) (ts2 ts : List Tm) (qs2 qs : List Qd) (fr : Int) : Prop := (0 ≤ p2 ∧ p2 ≤ n) ∧ ((0 ≤ f2 ∧ f2 ≤ n ∧ rst T p = .error f2) ∨ (f2 = -1 ∧ ∃ s, rst T p = .ok (p2, s) ∧ ((ov = 1 ∧ ov2 = 1 ∧ ts2 = ts ∧ qs2 = qs) ∨ (ov = 0 ∧ ov2 = 0 ∧ (ts2, 0, qs2, 0) = itS ts 0 fr qs 0 s.1 s.2.1 s.2.2.1 s.2.2.2) ∨ (ov = 0 ∧ ov2 = 1 ∧ ((itS ts 0 fr qs 0 s.1 s.2.1 s.2.2.1 s.2.2.2).2.1 = 1 ∨ (itS ts 0 fr qs 0 s.1 s.2.1 s.2.2.1 s.2.2.2).2.2.2 = 1)))))
/-- behind the dot: y whether it stood there -/
def A5 (T : List Int) (n p p2 f2 ov ov4 zs zv zo zg : Int) (ts4 ts : List Tm) (fr : Int) : Prop := (0 ≤ p2 ∧ p2 ≤ n) ∧ ((0 ≤ f2 ∧ f2 ≤ n ∧ rst T p = .error f2) ∨ (f2 = -1 ∧ ∃ s v o g, rst T p = .ok (p2, s, v, o, g) ∧ ac4 ts ts4 ov ov4 zs zv zo zg fr s v o g))
section A5
variable {T : List Int} {n p pc p2 f f2 ov ov4 zs zv zo zg fr z : Int} {ts ts4 : List Tm} {qs qs2 : List Qd}
theorem A5_of (hL : (T.length : Int) = n) (h0 : 0 ≤ pc ∧ pc ≤ n) (h : A4 T n p pc f ov ov4 zs zv zo zg ts4 ts fr) (hm : (0 ≤ f ∧ p2 = pc ∧ f2 = f) ∨ (f < 0 ∧ rd T pc = 46 ∧ p2 = pc + 1 ∧ f2 = f) ∨ (f < 0 ∧ rd T pc ≠ 46 ∧ p2 = pc ∧ f2 = pc)) : A5 T n p p2 f2 ov ov4 zs zv zo zg ts4 ts fr := by
  rcases h with a | ⟨a, s, v, o, g, b, c, d⟩
  · rcases hm with e | e | e
    · exact ⟨by omega, Or.inl (by rw [e.2.2]; exact a)⟩
    · omega
    · omega
  · rcases hm with e | e | e
    · omega
    · have hl := rd_lt (T := T) (p := pc) (by omega)
      exact ⟨by omega, Or.inr ⟨by omega, s, v, o, g, by rw [e.2.2.1]; exact b e.2.1, d⟩⟩
    · exact ⟨by omega, Or.inl ⟨by omega, by omega, by rw [e.2.2.2]; exact c e.2.1⟩⟩
theorem A5_f (h : A5 T n p p2 f2 ov ov4 zs zv zo zg ts4 ts fr) : (0 ≤ p2 ∧ p2 ≤ n) ∧ (f2 = -1 ∨ (0 ≤ f2 ∧ f2 ≤ n)) := by
  refine ⟨h.1, ?_⟩
  rcases h.2 with a | a
  · exact Or.inr ⟨a.1, a.2.1⟩
  · exact Or.inl a.1
theorem StO_dead (h : A5 T n p p2 f2 ov ov4 zs zv zo zg ts4 ts fr) (hf : 0 ≤ f2) {ov2 : Int} : StO T n p p2 f2 ov ov2 ts4 ts qs2 qs fr := by
  refine ⟨h.1, Or.inl ?_⟩
  rcases h.2 with a | a
  · exact a
  · have := a.1; omega
theorem StO_over (h : A5 T n p p2 f2 ov ov4 zs zv zo zg ts4 ts fr) (hf : f2 < 0) (h4 : ov4 ≠ 0) : StO T n p p2 f2 ov ov4 ts4 ts qs qs fr := by
  refine ⟨h.1, Or.inr ?_⟩
  rcases h.2 with a | ⟨a, s, v, o, g, b, c⟩
  · omega
  · refine ⟨a, (s, v, o, g), b, ?_⟩
    rcases c with c | c | c
    · exact Or.inl ⟨c.1, c.2.1, c.2.2, rfl⟩
    · exact absurd c.2.1 h4
    · exact Or.inr (Or.inr ⟨c.1, c.2.1, Or.inl (c.2.2 qs)⟩)
theorem A5_live (h : A5 T n p p2 f2 ov ov4 zs zv zo zg ts4 ts fr) (hf : f2 < 0) (h4 : ov4 = 0) : f2 = -1 ∧ ov = 0 ∧ ∃ s : Stm × Stm × Stm × Option Stm, rst T p = .ok (p2, s) ∧ ∀ qs, itS ts 0 fr qs 0 s.1 s.2.1 s.2.2.1 s.2.2.2 = fin ts4 0 qs 0 (zs, zv, zo, zg) := by
  rcases h.2 with a | ⟨a, s, v, o, g, b, c⟩
  · omega
  · rcases c with c | c | c
    · omega
    · exact ⟨a, c.1, (s, v, o, g), b, c.2.2⟩
    · omega
theorem StO_has (h : A5 T n p p2 f2 ov ov4 zs zv zo zg ts4 ts fr) (hf : f2 < 0) (h4 : ov4 = 0) (hz : z = if idxF qs 0 (zs, zv, zo, zg) = -1 then -2 else idxF qs 0 (zs, zv, zo, zg)) (hn : z ≠ -2) : StO T n p p2 f2 ov ov4 ts4 ts qs qs fr := by
  obtain ⟨e1, e2, s, e3, e4⟩ := A5_live h hf h4
  refine ⟨h.1, Or.inr ⟨e1, s, e3, Or.inr (Or.inl ⟨e2, h4, ?_⟩)⟩⟩
  rw [e4 qs]
  refine fin_add rfl ?_
  unfold adq
  rw [if_pos]
  intro q
  rw [if_pos q] at hz
  exact hn hz
theorem StO_full (h : A5 T n p p2 f2 ov ov4 zs zv zo zg ts4 ts fr) (hf : f2 < 0) (h4 : ov4 = 0) (hz : z = if idxF qs 0 (zs, zv, zo, zg) = -1 then -2 else idxF qs 0 (zs, zv, zo, zg)) (hn : z = -2) (h80 : 80 ≤ qs.length) : StO T n p p2 f2 ov 1 ts4 ts qs qs fr := by
  obtain ⟨e1, e2, s, e3, e4⟩ := A5_live h hf h4
  have hi := idxF_rg qs (zs, zv, zo, zg) 0 (Int.le_refl 0)
  have hx : idxF qs 0 (zs, zv, zo, zg) = -1 := by
    by_cases q : idxF qs 0 (zs, zv, zo, zg) = -1
    · exact q
    · rw [if_neg q] at hz; omega
  refine ⟨h.1, Or.inr ⟨e1, s, e3, Or.inr (Or.inr ⟨e2, rfl, Or.inr ?_⟩)⟩⟩
  rw [e4 qs]
  unfold fin adq
  rw [if_pos rfl, if_neg (fun q => q hx), if_neg (by omega)]
theorem StO_add (h : A5 T n p p2 f2 ov ov4 zs zv zo zg ts4 ts fr) (hf : f2 < 0) (h4 : ov4 = 0) (hz : z = if idxF qs 0 (zs, zv, zo, zg) = -1 then -2 else idxF qs 0 (zs, zv, zo, zg)) (hn : z = -2) (h80 : qs.length < 80) (hq : qs2 = qs ++ [(zs, zv, zo, zg)]) : StO T n p p2 f2 ov ov4 ts4 ts qs2 qs fr := by
  obtain ⟨e1, e2, s, e3, e4⟩ := A5_live h hf h4
  have hi := idxF_rg qs (zs, zv, zo, zg) 0 (Int.le_refl 0)
  have hx : idxF qs 0 (zs, zv, zo, zg) = -1 := by
    by_cases q : idxF qs 0 (zs, zv, zo, zg) = -1
    · exact q
    · rw [if_neg q] at hz; omega
  refine ⟨h.1, Or.inr ⟨e1, s, e3, Or.inr (Or.inl ⟨e2, h4, ?_⟩)⟩⟩
  rw [e4 qs]
  refine fin_add rfl ?_
  unfold adq
  rw [if_neg (fun q => q hx), if_pos h80, hq]
end A5
theorem qd_pushM {P : Nat → Int32} {sz a b c d : Int} (h0 : 0 ≤ sz) (ha : -2147483648 ≤ a ∧ a < 2147483648) (hb : -2147483648 ≤ b ∧ b < 2147483648) (hc : -2147483648 ≤ c ∧ c < 2147483648) (hd : -2147483648 ≤ d ∧ d < 2147483648) : lst (qdAt (fu (fu (fu (fu P (4 * sz) a) (4 * sz + 1) b) (4 * sz + 2) c) (4 * sz + 3) d)) (sz + 1) = lst (qdAt P) sz ++ [(a, b, c, d)] := by
  rw [Int.mul_comm 4 sz]
  exact qd_push h0 ha hb hc hd
theorem pre_rf {α : Type} {l : List α} : ∃ e, l = l ++ e := ⟨[], by simp⟩
theorem pre_tr {α : Type} {a b c : List α} (h : ∃ e, b = a ++ e) (h2 : ∃ e, c = b ++ e) : ∃ e, c = a ++ e := by
  obtain ⟨e, rfl⟩ := h
  obtain ⟨e2, rfl⟩ := h2
  exact ⟨e ++ e2, by simp⟩
theorem A3_any {T : List Int} {n p p1 f1 p2 f2 p3 f3 ov ov1 ov2 ov3 zs zv zo fr : Int} {ts ts1 ts2 ts3 : List Tm} (hov : ov = 0 ∨ ov = 1) (h1 : RsM n (-1) p1 f1 ov (rtm T 1 p) zs ov1 ts1 ts fr) (hf : f1 < 0) (h2 : RsM n (-1) p2 f2 ov1 (rtm T 0 (bl T p1)) zv ov2 ts2 ts1 fr) (hg : f2 < 0) (h3 : RsM n (-1) p3 f3 ov2 (rtm T 2 (bl T p2)) zo ov3 ts3 ts2 fr) : A3 T n p p3 f3 ov ov3 zs zv zo ts3 ts fr := by
  by_cases h : f3 < 0
  · exact A3_ok hov h1 hf h2 hg h3 h
  · exact Or.inl (A3_e3 h1 hf h2 hg h3 (by omega))
