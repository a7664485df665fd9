theorem mw_min_s : (.static Lib.Math.min.name : Cond) ∈ tk_tbl := tk_in (List.mem_append_right _ (List.mem_of_getElem? (i := 479) (by decide +kernel))) (by decide +kernel)
theorem mw_min_c : (.code Lib.Math.min.name Lib.Math.min.code 2 (some .int) : Cond) ∈ tk_tbl := tk_in (List.mem_append_right _ (List.mem_of_getElem? (i := 480) (by decide +kernel))) (by decide +kernel)
theorem mw_max_s : (.static Lib.Math.max.name : Cond) ∈ tk_tbl := tk_in (List.mem_append_right _ (List.mem_of_getElem? (i := 24) (by decide +kernel))) (by decide +kernel)
theorem mw_max_c : (.code Lib.Math.max.name Lib.Math.max.code 2 (some .int) : Cond) ∈ tk_tbl := tk_in (List.mem_append_right _ (List.mem_of_getElem? (i := 25) (by decide +kernel))) (by decide +kernel)
theorem mw_math_i : (.initialized "java/lang/Math" : Cond) ∈ tk_tbl := tk_in (List.mem_append_right _ (List.mem_of_getElem? (i := 3) (by decide +kernel))) (by decide +kernel)
/-! more rows: shifts, masks, divisions, longs, the least of two, boolean arrays -/
def ushJ (x y : Int) : Int := ((jI x).toUInt64 >>> ((iI y).toInt64.toUInt64 &&& Int64.toUInt64 63)).toInt64.toInt
def shJ (x y : Int) : Int := (jI x >>> ((iI y).toInt64 &&& 63)).toInt
def slJ (x y : Int) : Int := (jI x <<< ((iI y).toInt64 &&& 63)).toInt
def anJ (x y : Int) : Int := (jI x &&& jI y).toInt
def orJ (x y : Int) : Int := (jI x ||| jI y).toInt
theorem jI_rg (x : Int64) : -9223372036854775808 ≤ x.toInt ∧ x.toInt < 9223372036854775808 := by
  have h1 := Int64.le_toInt x
  have h2 := Int64.toInt_lt x
  omega
theorem iI_div {x y : Int} (h : 0 ≤ x ∧ x < 2147483648 ∧ 0 < y ∧ y < 2147483648) : iI x / iI y = iI (x / y) := by
  have h1 : 0 ≤ x / y := Int.ediv_nonneg h.1 (by omega)
  have h2 : x / y ≤ x := Int.ediv_le_self _ h.1
  apply Int32.toInt_inj.mp
  rw [lg_idiv_nonneg (by rw [iI_toInt (by omega)]; omega) (by rw [iI_toInt (by omega)]; omega), iI_toInt (by omega), iI_toInt (by omega), iI_toInt (by omega)]
theorem iI_rem {x y : Int} (h : 0 ≤ x ∧ x < 2147483648 ∧ 0 < y ∧ y < 2147483648) : iI x - iI x / iI y * iI y = iI (x % y) := by
  rw [iI_div h, iI_mul, iI_sub]
  congr 1
  rw [Int.emod_def, Int.mul_comm]
theorem iI_ne0 {y : Int} (h : 0 < y ∧ y < 2147483648) : ¬ iI y = 0 := by
  rw [iI_0, iI_eq (by omega) (by omega)]
  omega
section TKZ
variable {p : Program} {l : Launch} {e : Env} {R : Room} {s : State} {m : MethodId} {args : Array Value} {below : List Frame} {meth : Method} {c : Code} {H : Heap} {locs : List Loc} {cells slots : Nat} {Q : State → Prop}
variable {cc : ByteArray} {pc : Nat} {ls : Array Slot} {rest : List Value} {D : va_G} {cl : List vw_C} {A : Nat → Prop} {a : Nat} {tys : List (ClassId × FieldType)} {ws : va_W} {H0 : Heap}
theorem tk_topl {x y : Int64} (h : x = y) (k : W p l e R s m args below meth c H locs cells slots Q (F0 m pc ls (.long y :: rest))) : W p l e R s m args below meth c H locs cells slots Q (F0 m pc ls (.long x :: rest)) := by rw [h]; exact k
theorem tk_ishr (hexec : p.tables.exec = Jvm.exec) (hb : c.code = cc) {x y : Int} (hdg : decode cc pc = .ok (.ishr, 1))
    (k : W p l e R s m args below meth c H locs cells slots Q (F0 m (pc + 1) ls (.int (iI (shI x y)) :: rest))) : W p l e R s m args below meth c H locs cells slots Q (F0 m pc ls (.int (iI y) :: .int (iI x) :: rest)) :=
  lv_ishr hexec hb hdg (tk_top (iI_self _).symm k)
theorem tk_iand (hexec : p.tables.exec = Jvm.exec) (hb : c.code = cc) {x y : Int} (hdg : decode cc pc = .ok (.iand, 1))
    (k : W p l e R s m args below meth c H locs cells slots Q (F0 m (pc + 1) ls (.int (iI (anI x y)) :: rest))) : W p l e R s m args below meth c H locs cells slots Q (F0 m pc ls (.int (iI y) :: .int (iI x) :: rest)) :=
  lv_iand hexec hb hdg (tk_top (iI_self _).symm k)
theorem tk_idiv (hexec : p.tables.exec = Jvm.exec) (hb : c.code = cc) {x y : Int} (hdg : decode cc pc = .ok (.idiv, 1)) (h : 0 ≤ x ∧ x < 2147483648 ∧ 0 < y ∧ y < 2147483648)
    (k : W p l e R s m args below meth c H locs cells slots Q (F0 m (pc + 1) ls (.int (iI (x / y)) :: rest))) : W p l e R s m args below meth c H locs cells slots Q (F0 m pc ls (.int (iI y) :: .int (iI x) :: rest)) :=
  lv_idiv hexec hb hdg (iI_ne0 (by omega)) (tk_top (iI_div h) k)
theorem tk_irem (hexec : p.tables.exec = Jvm.exec) (hb : c.code = cc) {x y : Int} (hdg : decode cc pc = .ok (.irem, 1)) (h : 0 ≤ x ∧ x < 2147483648 ∧ 0 < y ∧ y < 2147483648)
    (k : W p l e R s m args below meth c H locs cells slots Q (F0 m (pc + 1) ls (.int (iI (x % y)) :: rest))) : W p l e R s m args below meth c H locs cells slots Q (F0 m pc ls (.int (iI y) :: .int (iI x) :: rest)) :=
  lv_irem hexec hb hdg (iI_ne0 (by omega)) (tk_top (iI_rem h) k)
theorem tk_lushr (hexec : p.tables.exec = Jvm.exec) (hb : c.code = cc) {x y : Int} (hdg : decode cc pc = .ok (.lushr, 1))
    (k : W p l e R s m args below meth c H locs cells slots Q (F0 m (pc + 1) ls (.long (jI (ushJ x y)) :: rest))) : W p l e R s m args below meth c H locs cells slots Q (F0 m pc ls (.int (iI y) :: .long (jI x) :: rest)) :=
  lv_lushr hexec hb hdg (jI_self _).symm k
theorem tk_lshr (hexec : p.tables.exec = Jvm.exec) (hb : c.code = cc) {x y : Int} (hdg : decode cc pc = .ok (.lshr, 1))
    (k : W p l e R s m args below meth c H locs cells slots Q (F0 m (pc + 1) ls (.long (jI (shJ x y)) :: rest))) : W p l e R s m args below meth c H locs cells slots Q (F0 m pc ls (.int (iI y) :: .long (jI x) :: rest)) :=
  lv_lshr hexec hb hdg (jI_self _).symm k
theorem tk_lshl (hexec : p.tables.exec = Jvm.exec) (hb : c.code = cc) {x y : Int} (hdg : decode cc pc = .ok (.lshl, 1))
    (k : W p l e R s m args below meth c H locs cells slots Q (F0 m (pc + 1) ls (.long (jI (slJ x y)) :: rest))) : W p l e R s m args below meth c H locs cells slots Q (F0 m pc ls (.int (iI y) :: .long (jI x) :: rest)) :=
  lv_lshl hexec hb hdg (jI_self _).symm k
theorem tk_land (hexec : p.tables.exec = Jvm.exec) (hb : c.code = cc) {x y : Int} (hdg : decode cc pc = .ok (.land, 1))
    (k : W p l e R s m args below meth c H locs cells slots Q (F0 m (pc + 1) ls (.long (jI (anJ x y)) :: rest))) : W p l e R s m args below meth c H locs cells slots Q (F0 m pc ls (.long (jI y) :: .long (jI x) :: rest)) :=
  lv_land hexec hb hdg (tk_topl (jI_self _).symm k)
theorem tk_lor (hexec : p.tables.exec = Jvm.exec) (hb : c.code = cc) {x y : Int} (hdg : decode cc pc = .ok (.lor, 1))
    (k : W p l e R s m args below meth c H locs cells slots Q (F0 m (pc + 1) ls (.long (jI (orJ x y)) :: rest))) : W p l e R s m args below meth c H locs cells slots Q (F0 m pc ls (.long (jI y) :: .long (jI x) :: rest)) :=
  lv_lor hexec hb hdg (tk_topl (jI_self _).symm k)
theorem iI_min {x y : Int} (hr : (-2147483648 ≤ x ∧ x < 2147483648) ∧ -2147483648 ≤ y ∧ y < 2147483648) : (if iI y < iI x then iI y else iI x) = iI (if y < x then y else x) := by
  by_cases h : y < x
  · rw [if_pos h, if_pos ((iI_lt hr.2 hr.1).mpr h)]
  · rw [if_neg h, if_neg (fun q => h ((iI_lt hr.2 hr.1).mp q))]
theorem iI_max {x y : Int} (hr : (-2147483648 ≤ x ∧ x < 2147483648) ∧ -2147483648 ≤ y ∧ y < 2147483648) : (if iI x < iI y then iI y else iI x) = iI (if x < y then y else x) := by
  by_cases h : x < y
  · rw [if_pos h, if_pos ((iI_lt hr.1 hr.2).mpr h)]
  · rw [if_neg h, if_neg (fun q => h ((iI_lt hr.1 hr.2).mp q))]
theorem tk_zald (hexec : p.tables.exec = Jvm.exec) (hb : c.code = cc) (hK : va_K D cl tys s) (hP : va_P D cl ws H) (q0 t0 : Nat) {cA : ClassId} {n : Nat} {f : Nat → Int32} (ha : ws[q0]? = some (a, .inl (cA, n, .inl f))) (ht : tys[t0]? = some (cA, .boolean)) {z : Int} (hz : 0 ≤ z ∧ z < n ∧ n < 2147483648) (hdg : decode cc pc = .ok (.baload, 1))
    (kk : W p l e R s m args below meth c H locs cells slots Q (F0 m (pc + 1) ls (.int (iI (tI f z)) :: rest))) : W p l e R s m args below meth c H locs cells slots Q (F0 m pc ls (.int (iI z) :: .ref a :: rest)) := by
  refine va_zald hexec hb hK hP q0 t0 ha ht (iI_in hz.1 hz.2.1 hz.2.2) hdg ?_
  rw [iI_clamp (by omega), ← iI_self (f z.toNat)]
  exact kk
theorem tk_zast (hexec : p.tables.exec = Jvm.exec) (hb : c.code = cc) (hK : va_K D cl tys s) (hP : va_P D cl ws H) (hD : va_D A ws) (hS : va_S A H0 H locs) (q0 t0 : Nat) {cA : ClassId} {n : Nat} {f : Nat → Int32} (ha : ws[q0]? = some (a, .inl (cA, n, .inl f))) (ht : tys[t0]? = some (cA, .boolean)) {z x : Int} (hx : x = 0 ∨ x = 1) (hz : 0 ≤ z ∧ z < n ∧ n < 2147483648) (hdg : decode cc pc = .ok (.bastore, 1))
    (kk : ∀ (H1 : Heap) (locs1 : List Loc), va_P D cl (ws.set q0 (a, .inl (cA, n, .inl (fu f z x)))) H1 → va_D A (ws.set q0 (a, .inl (cA, n, .inl (fu f z x)))) → va_S A H0 H1 locs1 → W p l e R s m args below meth c H1 locs1 cells slots Q (F0 m (pc + 1) ls rest)) : W p l e R s m args below meth c H locs cells slots Q (F0 m pc ls (.int (iI x) :: .int (iI z) :: .ref a :: rest)) := by
  have e : vp_nar .boolean (iI x) = iI x := by rcases hx with rfl | rfl <;> decide
  refine va_zast hexec hb hK hP hD hS q0 t0 ha ht (iI_in hz.1 hz.2.1 hz.2.2) hdg ?_
  rw [iI_clamp (by omega), e]
  exact kk
end TKZ
/-! the typed bytes -/
def tb (b : Int) : Nat → List Int
  | 0 => []
  | k + 1 => anI (ushJ b (8 * (k : Int))) 255 :: tb b k
theorem tb_step {b i : Int} {X E : List Int} (h : 0 ≤ i) (hX : X ++ tb b (i + 1).toNat = E) : (X ++ [anI (ushJ b (8 * i)) 255]) ++ tb b (i + (-1) + 1).toNat = E := by
  rw [show (i + (-1) + 1).toNat = i.toNat by omega, ← hX, show (i + 1).toNat = i.toNat + 1 by omega, tb, Int.toNat_of_nonneg h, List.append_assoc]
  rfl
def tyA (b n z : Int) (X Y : List Int) : Prop := (¬ (1 ≤ n ∧ n ≤ 8) ∧ z = -1 ∧ Y = X) ∨ ((1 ≤ n ∧ n ≤ 8) ∧ 3000 < (X.length : Int) + n ∧ z = -3 ∧ Y = X) ∨ ((1 ≤ n ∧ n ≤ 8) ∧ (X.length : Int) + n ≤ 3000 ∧ z = (X.length : Int) + n ∧ Y = X ++ tb b n.toNat)
theorem bv_key (x : BitVec 64) (k : Nat) (hk : k ≤ 56) : (x.sshiftRight k &&& 255#64) = (x >>> k &&& 255#64) := by
  have hm : ∀ i : Fin 64, (255#64).getLsbD i.val = decide (i.val < 8) := by decide
  apply BitVec.eq_of_getLsbD_eq
  intro i hi
  rw [BitVec.getLsbD_and, BitVec.getLsbD_and, hm ⟨i, hi⟩]
  by_cases h : i < 8
  · rw [BitVec.getLsbD_sshiftRight, BitVec.getLsbD_ushiftRight]
    simp [show ¬ 64 ≤ i by omega, show k + i < 64 by omega]
  · simp [h]
theorem tbM0 {b s : Int} {k : Nat} (hk : k ≤ 56) (h1 : (((iI s).toInt64 &&& 63).toBitVec.smod 64).toNat = k) (h2 : (((iI s).toInt64.toUInt64 &&& Int64.toUInt64 63).toBitVec % 64).toNat = k) : anJ (shJ b s) 255 = anI (ushJ b s) 255 := by
  have e1 : (jI b >>> ((iI s).toInt64 &&& 63)).toBitVec = (jI b).toBitVec.sshiftRight k := by rw [← h1]; rfl
  have e2 : ((jI b).toUInt64 >>> ((iI s).toInt64.toUInt64 &&& Int64.toUInt64 63)).toInt64.toBitVec = (jI b).toBitVec >>> k := by
    rw [← h2]
    exact UInt64.toBitVec_shiftRight _ _
  unfold anJ anI
  have e3 : iI (ushJ b s) = (((jI b).toUInt64 >>> ((iI s).toInt64.toUInt64 &&& Int64.toUInt64 63)).toInt64).toInt32 := by
    unfold ushJ
    rw [← jI_iI, jI_self]
  rw [e3, shJ, jI_self]
  rw [← Int64.toInt_toBitVec, ← Int32.toInt_toBitVec, Int64.toBitVec_and, Int32.toBitVec_and, e1, show (jI 255).toBitVec = 255#64 by decide, bv_key _ _ hk, show (iI 255).toBitVec = 255#32 by decide]
  have e4 : (((jI b).toUInt64 >>> ((iI s).toInt64.toUInt64 &&& Int64.toUInt64 63)).toInt64).toInt32.toBitVec = ((jI b).toBitVec >>> k).setWidth 32 := by
    rw [← e2]
    exact BitVec.signExtend_eq_setWidth_of_le _ (by decide)
  rw [e4]
  generalize (jI b).toBitVec >>> k = y
  have n1 : (y &&& 255#64).toNat = y.toNat % 256 := by
    rw [BitVec.toNat_and]
    exact Nat.and_two_pow_sub_one_eq_mod y.toNat 8
  have n2 : (y.setWidth 32 &&& 255#32).toNat = y.toNat % 256 := by
    rw [BitVec.toNat_and, BitVec.toNat_setWidth]
    rw [show (255#32).toNat = 2 ^ 8 - 1 from rfl, Nat.and_two_pow_sub_one_eq_mod]
    omega
  rw [BitVec.toInt_eq_toNat_cond, BitVec.toInt_eq_toNat_cond, n1, n2, if_pos (by omega), if_pos (by omega)]
theorem tbM {b i : Int} (h0 : 0 ≤ i) (h7 : i ≤ 7) : anJ (shJ b (8 * i)) 255 = anI (ushJ b (8 * i)) 255 := by
  obtain rfl | rfl | rfl | rfl | rfl | rfl | rfl | rfl : i = 0 ∨ i = 1 ∨ i = 2 ∨ i = 3 ∨ i = 4 ∨ i = 5 ∨ i = 6 ∨ i = 7 := by omega
  · exact tbM0 (k := 0) (by decide) (by decide) (by decide)
  · exact tbM0 (k := 8) (by decide) (by decide) (by decide)
  · exact tbM0 (k := 16) (by decide) (by decide) (by decide)
  · exact tbM0 (k := 24) (by decide) (by decide) (by decide)
  · exact tbM0 (k := 32) (by decide) (by decide) (by decide)
  · exact tbM0 (k := 40) (by decide) (by decide) (by decide)
  · exact tbM0 (k := 48) (by decide) (by decide) (by decide)
  · exact tbM0 (k := 56) (by decide) (by decide) (by decide)
/-! contracts that answer a long -/
def CtL (l : Launch) (D : va_G) (tys : List (ClassId × FieldType)) (y : MethodName) (b : ByteArray) (maxL : Nat) (d : Nat) (as : List Value) (ws : va_W) {S : Type} (post : Int → S → Prop) (wo : S → va_W) : Prop :=
  ∀ sz, Met l y (tk_ws y b maxL (some .long)) (tk_rm d) (tk_pre D tys as ws sz) (va_Ql (fun r u => ∃ z, r = jI z ∧ (-9223372036854775808 ≤ z ∧ z < 9223372036854775808) ∧ post z u) (tk_post D tys (va_A ws sz) wo) (va_A ws sz)) 0 0 (va_A ws sz)
theorem CtL.walk {l : Launch} {D : va_G} {tys : List (ClassId × FieldType)} {y : MethodName} {b : ByteArray} {maxL : Nat} {d : Nat} {as : List Value} {ws : va_W} {S : Type} {post : Int → S → Prop} {wo : S → va_W}
    (hy : plainName y.cls = true) (hlen : (lg_sl as).length ≤ maxL)
    (body : ∀ (p : Program) (e : Env) (s : State) (m : MethodId) (ar : Array Value) (below : List Frame) (meth : Method) (c : Code) (A : Nat → Prop) (Q : State → Prop), p.tables.exec = Jvm.exec → c.code = b → c.maxLocals = maxL → s.vm.findClass y.cls = some m.cls → (∀ w ∈ tk_tbl, w.before ar s = true) → va_P D classes ws s.heap → va_K D classes tys s → va_D A ws → (∀ q, s.heap.size ≤ q → A q) →
      (∀ (pc : Nat) (ls : Array Slot) (H : Heap) (locs : List Loc) (z : Int) (u : S), decode b pc = .ok (.lreturn, 1) → (-9223372036854775808 ≤ z ∧ z < 9223372036854775808) → post z u → va_P D classes (wo u) H → va_D A (wo u) → va_S A s.heap H locs → W p l e (tk_rm d) s m ar below meth c H locs 0 0 Q (F0 m pc ls [.long (jI z)])) →
      ∀ ls : Array Slot, lv_has ls maxL (lv_args 0 as) → va_S A s.heap s.heap [] → W p l e (tk_rm d) s m ar below meth c s.heap [] 0 0 Q (F0 m 0 ls [])) : CtL l D tys y b maxL d as ws post wo := by
  intro sz
  refine Met.ofW (cc := b) (maxL := maxL) (ret := some .long) hy rfl ?_
  intro p e s m args below meth c s₁ B hml hv
  obtain ⟨rfl, hsz, hP, hK, hD0⟩ := hv
  have hts := atoms_spec (ws := tk_ws y b maxL (some .long)) B.pre
  have hown : s.vm.findClass y.cls = some m.cls := findClass_of_methodNamed B.named
  have hlocks := B.notSynchronized
  have hr := B.returns
  have hx := B.exec
  have hb := B.bytes
  subst hsz
  have hD := hD0.self (sz := s.heap.size)
  generalize hAe : va_A ws s.heap.size = A at hD ⊢
  have hA : ∀ q : Nat, s.heap.size ≤ q → A q := fun q h => by rw [← hAe]; exact Or.inr h
  have hl := lv_entry as (n := maxL) hlen
  rw [lg_entry_eq]
  generalize (lg_sl as ++ List.replicate (maxL - (lg_sl as).length) Slot.unset).toArray = ls at hl ⊢
  refine body p e s m _ below meth c A _ hx hb hml hown (fun w hw => hts w (List.mem_cons_of_mem _ hw)) hP hK hD hA ?_ ls hl va_S.rf
  intro pc ls H locs z u hd hrz hp hP hD hS
  exact W.lret (v := jI z) hx hb hr (fun t ht hW => ⟨⟨jI z, u, rfl, ⟨z, rfl, hrz, hp⟩, by rw [ht]; exact hP, va_K.moved hW.alike hK, hD⟩, hS.F ht⟩) hS.2.2 hd
section TKL
variable {p : Program} {l : Launch} {e : Env} {R : Room} {s : State} {m : MethodId} {args : Array Value} {below : List Frame} {meth : Method} {c : Code} {H : Heap} {locs : List Loc} {cells slots : Nat} {Q : State → Prop}
variable {cc : ByteArray} {pc : Nat} {ls : Array Slot} {rest st : List Value} {D : va_G} {A : Nat → Prop} {tys : List (ClassId × FieldType)} {ws wc wr : va_W} {H0 : Heap} {own : String} {index nL maxL d n bb ci : Nat} {y : MethodName} {b : ByteArray} {As : List Value} {S : Type} {wo wn : S → va_W} {cq : vw_C} {fs : List Value}
theorem tk_callVl {post : Int → S → Prop} (S0 : CallFix p m c cc nL s args tk_tbl own) (hM : CtL l D tys y b maxL d (.ref bb :: As) wc post wo) (hy : tk_ok y b maxL (some .long) n) (hlnk : Cond.methodLink own index y ∈ tk_tbl) (hR : d + 1 ≤ R.frames ∧ 8 + (maxL + 11) + 30 * d ≤ R.locals)
    (hK : va_K D classes tys s) (hP : va_P D classes ws H) (hD : va_D A ws) (hS : va_S A H0 H locs) (hA : ∀ q, H0.size ≤ q → A q) (hn : As.length = n) (hls : ls.size = nL) (hst : st = As.reverse ++ .ref bb :: rest) (hrest : (rest.map fun v => v.category).sum ≤ 8) (hdg : decode cc pc = .ok (.invokevirtual index, 3)) (hf : cells ≤ R.cells ∧ slots ≤ R.slots)
    (isC isR perm : List Nat) (hC : isC.map (fun i => ws[i]?) = wc.map some) (hRr : isR.map (fun i => ws[i]?) = wr.map some) (hcn : va_nd isC = true) (hnd : va_nd isR = true) (hdis : ∀ i ∈ isR, i ∉ isC) (hpn : va_nd perm = true) (hp : ∀ u, perm.map (fun i => (wr ++ wo u)[i]?) = (wn u).map some) (hq : wc[0]? = some (bb, .inr (ci, fs))) (hci : classes[ci]? = some cq) (hcq : cq.1 = y.cls)
    (kk : ∀ (z : Int) (u : S) (H1 : Heap) (locs1 : List Loc), (-9223372036854775808 ≤ z ∧ z < 9223372036854775808) → post z u → va_P D classes (wn u) H1 → va_D A (wn u) → va_S A H0 H1 locs1 → W p l e R s m args below meth c H1 locs1 cells slots Q (F0 m (pc + 3) ls (.long (jI z) :: rest))) : W p l e R s m args below meth c H locs cells slots Q (F0 m pc ls st) := by
  subst hst
  have hPc : va_P D classes wc H := hP.sub isC (tk_fm hC)
  have hFc := va_free (wc := wc) hD hS hA isC hC
  obtain ⟨hx, hb, hml, hown, hts⟩ := S0
  have hDc : va_D (fun _ => True) wc := (hD.sub isC hcn hC).weaken (fun _ _ _ _ => trivial)
  obtain ⟨hy1, hy2, hy3, hy4, hy5⟩ := hy
  have hrc := va_recv hK hPc hci hq
  rw [hcq] at hrc
  refine va_calll (va_runV (C := y.cls) (As := As) (rest := rest) ⟨hx, hb, hml, hown, hts⟩ (hM H.size) ⟨tk_callB hts hy1 hy4 hlnk hy5 hR, hts _ hy2, hts _ hy3⟩ ⟨tk_pre_blind, hrc, fun U hU hW => ⟨rfl, by rw [hU], by rw [hU]; exact hPc, va_K.moved hW.alike hK, hDc⟩⟩ rfl hn hls rfl (lv_room hrest) hdg ⟨hf.1, hf.2⟩) hS (fun q _ h => hFc q h) hFc ?_
  intro r u t H1 locs1 ht hvm hw hB hz1 hk1 hS1
  obtain ⟨z, rfl, hrz, hw⟩ := hw
  obtain ⟨hP1, hK1, hD1⟩ := hB
  rw [ht] at hP1
  obtain ⟨hP2, hD2⟩ := tk_after hP hD isC isR perm hC hRr hnd hdis hpn (hp u) hk1 hFc hP1 hD1
  exact kk z u H1 locs1 hrz hw hP2 hD2 hS1
end TKL
section TKN
variable {p : Program} {l : Launch} {e : Env} {R : Room} {s : State} {m : MethodId} {args : Array Value} {below : List Frame} {meth : Method} {c : Code} {H : Heap} {locs : List Loc} {cells slots : Nat} {Q : State → Prop}
variable {cc : ByteArray} {pc : Nat} {ls : Array Slot} {rest : List Value}
theorem tk_lif_eq (hexec : p.tables.exec = Jvm.exec) (hb : c.code = cc) {x y : Int} {off : Int} {tgt : Nat} (hdg : decode cc pc = .ok (.lcmp, 1)) (hd2 : decode cc (pc + 1) = .ok (.ifCond .eq off, 3)) (ht : ((pc + 1 : Nat) : Int) + off = (tgt : Int)) (hr : (-9223372036854775808 ≤ x ∧ x < 9223372036854775808) ∧ -9223372036854775808 ≤ y ∧ y < 9223372036854775808)
    (kt : x = y → W p l e R s m args below meth c H locs cells slots Q (F0 m tgt ls rest)) (kf : x ≠ y → W p l e R s m args below meth c H locs cells slots Q (F0 m (pc + 4) ls rest)) : W p l e R s m args below meth c H locs cells slots Q (F0 m pc ls (.long (jI y) :: .long (jI x) :: rest)) := by
  refine tk_lcmp hexec hb hdg hr (fun h => ?_) (fun h => ?_) (fun h => ?_)
  · exact tk_if_eq hexec hb hd2 ht (by omega) (fun q => absurd q (by omega)) (fun _ => kf (by omega))
  · exact tk_if_eq hexec hb hd2 ht (by omega) (fun _ => kt (by omega)) (fun q => absurd q (by omega))
  · exact tk_if_eq hexec hb hd2 ht (by omega) (fun q => absurd q (by omega)) (fun _ => kf (by omega))
theorem tk_lif_ne (hexec : p.tables.exec = Jvm.exec) (hb : c.code = cc) {x y : Int} {off : Int} {tgt : Nat} (hdg : decode cc pc = .ok (.lcmp, 1)) (hd2 : decode cc (pc + 1) = .ok (.ifCond .ne off, 3)) (ht : ((pc + 1 : Nat) : Int) + off = (tgt : Int)) (hr : (-9223372036854775808 ≤ x ∧ x < 9223372036854775808) ∧ -9223372036854775808 ≤ y ∧ y < 9223372036854775808)
    (kt : x ≠ y → W p l e R s m args below meth c H locs cells slots Q (F0 m tgt ls rest)) (kf : x = y → W p l e R s m args below meth c H locs cells slots Q (F0 m (pc + 4) ls rest)) : W p l e R s m args below meth c H locs cells slots Q (F0 m pc ls (.long (jI y) :: .long (jI x) :: rest)) := by
  refine tk_lcmp hexec hb hdg hr (fun h => ?_) (fun h => ?_) (fun h => ?_)
  · exact tk_if_ne hexec hb hd2 ht (by omega) (fun _ => kt (by omega)) (fun q => absurd q (by omega))
  · exact tk_if_ne hexec hb hd2 ht (by omega) (fun q => absurd q (by omega)) (fun _ => kf (by omega))
  · exact tk_if_ne hexec hb hd2 ht (by omega) (fun _ => kt (by omega)) (fun q => absurd q (by omega))
theorem tk_lif_lt (hexec : p.tables.exec = Jvm.exec) (hb : c.code = cc) {x y : Int} {off : Int} {tgt : Nat} (hdg : decode cc pc = .ok (.lcmp, 1)) (hd2 : decode cc (pc + 1) = .ok (.ifCond .lt off, 3)) (ht : ((pc + 1 : Nat) : Int) + off = (tgt : Int)) (hr : (-9223372036854775808 ≤ x ∧ x < 9223372036854775808) ∧ -9223372036854775808 ≤ y ∧ y < 9223372036854775808)
    (kt : x < y → W p l e R s m args below meth c H locs cells slots Q (F0 m tgt ls rest)) (kf : y ≤ x → W p l e R s m args below meth c H locs cells slots Q (F0 m (pc + 4) ls rest)) : W p l e R s m args below meth c H locs cells slots Q (F0 m pc ls (.long (jI y) :: .long (jI x) :: rest)) := by
  refine tk_lcmp hexec hb hdg hr (fun h => ?_) (fun h => ?_) (fun h => ?_)
  · exact tk_if_lt hexec hb hd2 ht (by omega) (fun q => absurd q (by omega)) (fun _ => kf (by omega))
  · exact tk_if_lt hexec hb hd2 ht (by omega) (fun q => absurd q (by omega)) (fun _ => kf (by omega))
  · exact tk_if_lt hexec hb hd2 ht (by omega) (fun _ => kt (by omega)) (fun q => absurd q (by omega))
theorem tk_lif_ge (hexec : p.tables.exec = Jvm.exec) (hb : c.code = cc) {x y : Int} {off : Int} {tgt : Nat} (hdg : decode cc pc = .ok (.lcmp, 1)) (hd2 : decode cc (pc + 1) = .ok (.ifCond .ge off, 3)) (ht : ((pc + 1 : Nat) : Int) + off = (tgt : Int)) (hr : (-9223372036854775808 ≤ x ∧ x < 9223372036854775808) ∧ -9223372036854775808 ≤ y ∧ y < 9223372036854775808)
    (kt : y ≤ x → W p l e R s m args below meth c H locs cells slots Q (F0 m tgt ls rest)) (kf : x < y → W p l e R s m args below meth c H locs cells slots Q (F0 m (pc + 4) ls rest)) : W p l e R s m args below meth c H locs cells slots Q (F0 m pc ls (.long (jI y) :: .long (jI x) :: rest)) := by
  refine tk_lcmp hexec hb hdg hr (fun h => ?_) (fun h => ?_) (fun h => ?_)
  · exact tk_if_ge hexec hb hd2 ht (by omega) (fun _ => kt (by omega)) (fun q => absurd q (by omega))
  · exact tk_if_ge hexec hb hd2 ht (by omega) (fun _ => kt (by omega)) (fun q => absurd q (by omega))
  · exact tk_if_ge hexec hb hd2 ht (by omega) (fun q => absurd q (by omega)) (fun _ => kf (by omega))
theorem tk_lif_gt (hexec : p.tables.exec = Jvm.exec) (hb : c.code = cc) {x y : Int} {off : Int} {tgt : Nat} (hdg : decode cc pc = .ok (.lcmp, 1)) (hd2 : decode cc (pc + 1) = .ok (.ifCond .gt off, 3)) (ht : ((pc + 1 : Nat) : Int) + off = (tgt : Int)) (hr : (-9223372036854775808 ≤ x ∧ x < 9223372036854775808) ∧ -9223372036854775808 ≤ y ∧ y < 9223372036854775808)
    (kt : y < x → W p l e R s m args below meth c H locs cells slots Q (F0 m tgt ls rest)) (kf : x ≤ y → W p l e R s m args below meth c H locs cells slots Q (F0 m (pc + 4) ls rest)) : W p l e R s m args below meth c H locs cells slots Q (F0 m pc ls (.long (jI y) :: .long (jI x) :: rest)) := by
  refine tk_lcmp hexec hb hdg hr (fun h => ?_) (fun h => ?_) (fun h => ?_)
  · exact tk_if_gt hexec hb hd2 ht (by omega) (fun _ => kt (by omega)) (fun q => absurd q (by omega))
  · exact tk_if_gt hexec hb hd2 ht (by omega) (fun q => absurd q (by omega)) (fun _ => kf (by omega))
  · exact tk_if_gt hexec hb hd2 ht (by omega) (fun q => absurd q (by omega)) (fun _ => kf (by omega))
theorem tk_lif_le (hexec : p.tables.exec = Jvm.exec) (hb : c.code = cc) {x y : Int} {off : Int} {tgt : Nat} (hdg : decode cc pc = .ok (.lcmp, 1)) (hd2 : decode cc (pc + 1) = .ok (.ifCond .le off, 3)) (ht : ((pc + 1 : Nat) : Int) + off = (tgt : Int)) (hr : (-9223372036854775808 ≤ x ∧ x < 9223372036854775808) ∧ -9223372036854775808 ≤ y ∧ y < 9223372036854775808)
    (kt : x ≤ y → W p l e R s m args below meth c H locs cells slots Q (F0 m tgt ls rest)) (kf : y < x → W p l e R s m args below meth c H locs cells slots Q (F0 m (pc + 4) ls rest)) : W p l e R s m args below meth c H locs cells slots Q (F0 m pc ls (.long (jI y) :: .long (jI x) :: rest)) := by
  refine tk_lcmp hexec hb hdg hr (fun h => ?_) (fun h => ?_) (fun h => ?_)
  · exact tk_if_le hexec hb hd2 ht (by omega) (fun q => absurd q (by omega)) (fun _ => kf (by omega))
  · exact tk_if_le hexec hb hd2 ht (by omega) (fun _ => kt (by omega)) (fun q => absurd q (by omega))
  · exact tk_if_le hexec hb hd2 ht (by omega) (fun _ => kt (by omega)) (fun q => absurd q (by omega))
end TKN
