/-! what is made: arrays, objects, the contracts of constructors -/
def z0 : Nat → Int32 := fun _ => 0
theorem tI_z0 (i : Int) : tI z0 i = 0 := rfl
def tk_rmN (d mc ms : Nat) : Room := { frames := d, cells := mc, slots := ms, locals := 30 * d }
def CtN (l : Launch) (D : va_G) (tys : List (ClassId × FieldType)) (y : MethodName) (b : ByteArray) (maxL : Nat) (d mc ms : Nat) (as : List Value) (ws : va_W) {S : Type} (post : S → Prop) (wo : S → va_W) : Prop :=
  ∀ sz, Met l y (tk_ws y b maxL none) (tk_rmN d mc ms) (tk_pre D tys as ws sz) (va_Qv post (tk_post D tys (va_A ws sz) wo) (va_A ws sz)) mc ms (va_A ws sz)
theorem CtN.walk {l : Launch} {D : va_G} {tys : List (ClassId × FieldType)} {y : MethodName} {b : ByteArray} {maxL : Nat} {d mc ms : Nat} {as : List Value} {ws : va_W} {S : Type} {post : S → Prop} {wo : S → va_W}
    (hy : plainName y.cls = true) (hlen : (lg_sl as).length ≤ maxL)
    (body : ∀ (p : Program) (e : Env) (s : State) (m : MethodId) (ar : Array Value) (below : List Frame) (meth : Method) (c : Code) (A : Nat → Prop) (Q : State → Prop), p.tables.exec = Jvm.exec → c.code = b → c.maxLocals = maxL → s.vm.findClass y.cls = some m.cls → meth.name = y.name → (∀ w ∈ tk_tbl, w.before ar s = true) → va_P D classes ws s.heap → va_K D classes tys s → va_D A ws → (∀ q, s.heap.size ≤ q → A q) →
      (∀ (pc : Nat) (ls : Array Slot) (H : Heap) (locs : List Loc) (u : S), decode b pc = .ok (.return_, 1) → post u → va_P D classes (wo u) H → va_D A (wo u) → va_S A s.heap H locs → W p l e (tk_rmN d mc ms) s m ar below meth c H locs mc ms Q (F0 m pc ls [])) →
      ∀ ls : Array Slot, lv_has ls maxL (lv_args 0 as) → va_S A s.heap s.heap [] → W p l e (tk_rmN d mc ms) s m ar below meth c s.heap [] 0 0 Q (F0 m 0 ls [])) : CtN l D tys y b maxL d mc ms as ws post wo := by
  intro sz
  refine Met.ofW (cc := b) (maxL := maxL) (ret := none) hy rfl ?_
  intro p e s m args below meth c s₁ B hml hv
  obtain ⟨rfl, hsz, hP, hK, hD0⟩ := hv
  have hts := atoms_spec (ws := tk_ws y b maxL none) B.pre
  have hown : s.vm.findClass y.cls = some m.cls := findClass_of_methodNamed B.named
  have hnm : meth.name = y.name := (name_of_methodNamed B.named B.method).1
  have hlocks := B.notSynchronized
  have hr := B.returns
  have hx := B.exec
  have hb := B.bytes
  subst hsz
  have hD := hD0.self (sz := s.heap.size)
  generalize hAe : va_A ws s.heap.size = A at hD ⊢
  have hA : ∀ q : Nat, s.heap.size ≤ q → A q := fun q h => by rw [← hAe]; exact Or.inr h
  have hl := lv_entry as (n := maxL) hlen
  rw [lg_entry_eq]
  generalize (lg_sl as ++ List.replicate (maxL - (lg_sl as).length) Slot.unset).toArray = ls at hl ⊢
  refine body p e s m _ below meth c A _ hx hb hml hown hnm (fun w hw => hts w (List.mem_cons_of_mem _ hw)) hP hK hD hA ?_ ls hl va_S.rf
  intro pc ls H locs u hd hp hP hD hS
  exact W.vret hx hb hr (fun t ht hW => ⟨⟨u, rfl, hp, by rw [ht]; exact hP, va_K.moved hW.alike hK, hD⟩, hS.F ht⟩) hS.2.2 hd
/-- a constructor's words -/
def tk_okn (y : MethodName) (b : ByteArray) (maxL n : Nat) : Prop :=
  Cond.code y b maxL none ∈ tk_tbl ∧ Cond.instanceMethod y ∈ tk_tbl ∧ Cond.initialized y.cls ∈ tk_tbl ∧ y.name = "<init>" ∧ (y.cls ≠ "java/lang/invoke/MethodHandle" ∧ y.cls ≠ "java/lang/invoke/VarHandle" ∧ (parseMethodDescriptor y.desc).map (fun d => d.parameters.length) = some n)
section TKQ
variable {p : Program} {l : Launch} {e : Env} {R : Room} {s : State} {m : MethodId} {args : Array Value} {below : List Frame} {meth : Method} {c : Code} {H : Heap} {locs : List Loc} {cells slots : Nat} {Q : State → Prop}
variable {cc : ByteArray} {pc : Nat} {ls : Array Slot} {rest st : List Value} {D : va_G} {A : Nat → Prop} {tys : List (ClassId × FieldType)} {ws wc wr : va_W} {H0 : Heap} {own : String} {index nL maxL d n bb ci mc ms : Nat} {y : MethodName} {b : ByteArray} {As : List Value} {S : Type} {wo wn : S → va_W} {cq : vw_C} {fs : List Value}
theorem tk_callN {post : S → Prop} (S0 : CallFix p m c cc nL s args tk_tbl own) (hM : CtN l D tys y b maxL d mc ms (.ref bb :: As) wc post wo) (hy : tk_okn y b maxL n) (hlnk : Cond.methodLink own index y ∈ tk_tbl) (hR : d + 1 ≤ R.frames ∧ 8 + (maxL + 11) + 30 * d ≤ R.locals)
    (hK : va_K D classes tys s) (hP : va_P D classes ws H) (hD : va_D A ws) (hS : va_S A H0 H locs) (hA : ∀ q, H0.size ≤ q → A q) (hn : As.length = n) (hls : ls.size = nL) (hst : st = As.reverse ++ .ref bb :: rest) (hrest : (rest.map fun v => v.category).sum ≤ 8) (hdg : decode cc pc = .ok (.invokespecial index, 3)) (hf : cells + mc ≤ R.cells ∧ slots + ms ≤ R.slots)
    (isC isR perm : List Nat) (hC : isC.map (fun i => ws[i]?) = wc.map some) (hRr : isR.map (fun i => ws[i]?) = wr.map some) (hcn : va_nd isC = true) (hnd : va_nd isR = true) (hdis : ∀ i ∈ isR, i ∉ isC) (hpn : va_nd perm = true) (hp : ∀ u, perm.map (fun i => (wr ++ wo u)[i]?) = (wn u).map some)
    (kk : ∀ (u : S) (H1 : Heap) (locs1 : List Loc), post u → va_P D classes (wn u) H1 → va_D A (wn u) → va_S A H0 H1 locs1 → W p l e R s m args below meth c H1 locs1 (cells + mc) (slots + ms) Q (F0 m (pc + 3) ls rest)) : W p l e R s m args below meth c H locs cells slots Q (F0 m pc ls st) := by
  subst hst
  have hPc : va_P D classes wc H := hP.sub isC (tk_fm hC)
  have hFc := va_free (wc := wc) hD hS hA isC hC
  obtain ⟨hx, hb, hml, hown, hts⟩ := S0
  have hDc : va_D (fun _ => True) wc := (hD.sub isC hcn hC).weaken (fun _ _ _ _ => trivial)
  obtain ⟨hy1, hy2, hy4, hy6, hy5⟩ := hy
  refine va_callv (va_runI (As := As) (rest := rest) ⟨hx, hb, hml, hown, hts⟩ (hM H.size) ⟨callB_of n hts (tk_goodc hy1) rfl rfl rfl (hts _ hy4) (hts _ hlnk) hy5 hR, hy6, hts _ hy2⟩ ⟨tk_pre_blind, fun U hU hW => ⟨rfl, by rw [hU], by rw [hU]; exact hPc, va_K.moved hW.alike hK, hDc⟩⟩ rfl hn hls rfl (lv_room hrest) hdg hf) hS (fun q _ h => hFc q h) hFc ?_
  intro u t H1 locs1 ht hvm hw hB hz1 hk1 hS1
  obtain ⟨hP1, hK1, hD1⟩ := hB
  rw [ht] at hP1
  obtain ⟨hP2, hD2⟩ := tk_after hP hD isC isR perm hC hRr hnd hdis hpn (hp u) hk1 hFc hP1 hD1
  exact kk u H1 locs1 hw hP2 hD2 hS1
theorem tk_newi (hexec : p.tables.exec = Jvm.exec) (hb : c.code = cc) (harr : (Cond.arrayClass .int).before args s = true) (hK : va_K D classes tys s) (t0 : Nat) {cA : ClassId} (ht : tys[t0]? = some (cA, .int)) (hP : va_P D classes ws H) (hD : va_D A ws) (hS : va_S A H0 H locs) (hA : ∀ q, H0.size ≤ q → A q)
    {z : Int} (N : Nat) (hz : z = (N : Int)) (hN : N ≤ 100000) (hcells : cells + 1 ≤ R.cells) (hslots : slots + N ≤ R.slots) (hdg : decode cc pc = .ok (.newarray .int, 2))
    (kk : ∀ (q : Nat) (H1 : Heap), va_P D classes (ws ++ [(q, .inl (cA, N, .inl z0))]) H1 → va_D A (ws ++ [(q, .inl (cA, N, .inl z0))]) → va_S A H0 H1 locs →
      W p l e R s m args below meth c H1 locs (cells + 1) (slots + N) Q (F0 m (pc + 2) ls (.ref q :: rest))) : W p l e R s m args below meth c H locs cells slots Q (F0 m pc ls (.int (iI z) :: rest)) := by
  subst hz
  refine va_newa (atype := .int) (ty := .int) (a0 := (N, .inl z0)) hexec hb harr rfl hK hP hD hS hA (fun _ => rfl) (by rw [iI_0, iI_lt (by omega) (by omega)]; omega) (by rw [iI_clamp (by omega)]; omega) (by show N * 4 ≤ _; omega) hcells hslots hdg ?_
  intro q cA' H1 hK' hP' hD' hS'
  have e1 : va_RA s cA .int := (hK.2 t0 _ ht).2
  have e2 : va_RA s cA' .int := (hK'.2 tys.length (cA', .int) (by rw [List.getElem?_append_right (Nat.le_refl _), Nat.sub_self]; rfl)).2
  have e : cA' = cA := Option.some.inj (e2.symm.trans e1)
  subst e
  exact kk q H1 hP' hD' hS'
theorem tk_newz (hexec : p.tables.exec = Jvm.exec) (hb : c.code = cc) (harr : (Cond.arrayClass .boolean).before args s = true) (hK : va_K D classes tys s) (t0 : Nat) {cA : ClassId} (ht : tys[t0]? = some (cA, .boolean)) (hP : va_P D classes ws H) (hD : va_D A ws) (hS : va_S A H0 H locs) (hA : ∀ q, H0.size ≤ q → A q)
    {z : Int} (N : Nat) (hz : z = (N : Int)) (hN : N ≤ 100000) (hcells : cells + 1 ≤ R.cells) (hslots : slots + N ≤ R.slots) (hdg : decode cc pc = .ok (.newarray .boolean, 2))
    (kk : ∀ (q : Nat) (H1 : Heap), va_P D classes (ws ++ [(q, .inl (cA, N, .inl z0))]) H1 → va_D A (ws ++ [(q, .inl (cA, N, .inl z0))]) → va_S A H0 H1 locs →
      W p l e R s m args below meth c H1 locs (cells + 1) (slots + N) Q (F0 m (pc + 2) ls (.ref q :: rest))) : W p l e R s m args below meth c H locs cells slots Q (F0 m pc ls (.int (iI z) :: rest)) := by
  subst hz
  refine va_newa (atype := .boolean) (ty := .boolean) (a0 := (N, .inl z0)) hexec hb harr rfl hK hP hD hS hA (fun _ => rfl) (by rw [iI_0, iI_lt (by omega) (by omega)]; omega) (by rw [iI_clamp (by omega)]; omega) (by show N * 1 ≤ _; omega) hcells hslots hdg ?_
  intro q cA' H1 hK' hP' hD' hS'
  have e1 : va_RA s cA .boolean := (hK.2 t0 _ ht).2
  have e2 : va_RA s cA' .boolean := (hK'.2 tys.length (cA', .boolean) (by rw [List.getElem?_append_right (Nat.le_refl _), Nat.sub_self]; rfl)).2
  have e : cA' = cA := Option.some.inj (e2.symm.trans e1)
  subst e
  exact kk q H1 hP' hD' hS'
end TKQ
theorem tk_arr {args : Array Value} {s : State} {ty : FieldType} (h : ty = .int ∨ ty = .boolean) (harr : (Cond.arrayClass ty).before args s = true) : ∃ cA, ArrOfT s cA ty ∧ va_RA s cA ty := by
  obtain ⟨cA, kA, comp, h1, h2, h3⟩ := Cond.arrayClass_spec harr
  refine ⟨cA, fun n z => ⟨fun k h => (by cases h), kA, h2, comp, h3⟩, ?_⟩
  rcases h with rfl | rfl
  · exact h1
  · exact h1
theorem mw_oi : (.instanceMethod Lib.objectInit : Cond) ∈ tk_tbl := tk_in (List.mem_append_right _ (List.mem_of_getElem? (i := 15) (by decide +kernel))) (by decide +kernel)
theorem mw_oc : (.code Lib.objectInit ⟨#[0xb1]⟩ 1 none : Cond) ∈ tk_tbl := tk_in (List.mem_append_right _ (List.mem_of_getElem? (i := 16) (by rfl))) (by rfl)
theorem mw_ai : (.arrayClass .int : Cond) ∈ tk_tbl := tk_in (List.mem_append_right _ (List.mem_of_getElem? (i := 42) (by decide +kernel))) (by decide +kernel)
theorem mw_az : (.arrayClass .boolean : Cond) ∈ tk_tbl := tk_in (List.mem_append_right _ (List.mem_of_getElem? (i := 588) (by decide +kernel))) (by decide +kernel)
theorem mw_inst_Row : (.instantiable R_Row 3 : Cond) ∈ tk_tbl := tk_in (List.mem_append_right _ (List.mem_of_getElem? (i := 18) (by decide +kernel))) (by decide +kernel)
theorem mw_ini_Row : (.initialized R_Row : Cond) ∈ tk_tbl := tk_in (List.mem_append_right _ (List.mem_of_getElem? (i := 2) (by decide +kernel))) (by decide +kernel)
theorem mw_inst_Terms : (.instantiable R_Terms 9 : Cond) ∈ tk_tbl := tk_in (List.mem_append_right _ (List.mem_of_getElem? (i := 44) (by decide +kernel))) (by decide +kernel)
theorem mw_ini_Terms : (.initialized R_Terms : Cond) ∈ tk_tbl := tk_in (List.mem_append_right _ (List.mem_of_getElem? (i := 4) (by decide +kernel))) (by decide +kernel)
theorem mw_inst_Quads : (.instantiable R_Quads 3 : Cond) ∈ tk_tbl := tk_in (List.mem_append_right _ (List.mem_of_getElem? (i := 89) (by decide +kernel))) (by decide +kernel)
theorem mw_ini_Quads : (.initialized R_Quads : Cond) ∈ tk_tbl := tk_in (List.mem_append_right _ (List.mem_of_getElem? (i := 5) (by decide +kernel))) (by decide +kernel)
theorem mw_inst_Reader : (.instantiable R_Reader 10 : Cond) ∈ tk_tbl := tk_in (List.mem_append_right _ (List.mem_of_getElem? (i := 108) (by decide +kernel))) (by decide +kernel)
theorem mw_ini_Reader : (.initialized R_Reader : Cond) ∈ tk_tbl := tk_in (List.mem_append_right _ (List.mem_of_getElem? (i := 6) (by decide +kernel))) (by decide +kernel)
theorem mw_inst_Printer : (.instantiable R_Printer 6 : Cond) ∈ tk_tbl := tk_in (List.mem_append_right _ (List.mem_of_getElem? (i := 148) (by decide +kernel))) (by decide +kernel)
theorem mw_ini_Printer : (.initialized R_Printer : Cond) ∈ tk_tbl := tk_in (List.mem_append_right _ (List.mem_of_getElem? (i := 7) (by decide +kernel))) (by decide +kernel)
theorem mw_inst_TripleLines : (.instantiable R_TripleLines 8 : Cond) ∈ tk_tbl := tk_in (List.mem_append_right _ (List.mem_of_getElem? (i := 10) (by decide +kernel))) (by decide +kernel)
theorem mw_ini_TripleLines : (.initialized R_TripleLines : Cond) ∈ tk_tbl := tk_in (List.mem_append_right _ (List.mem_of_getElem? (i := 1) (by decide +kernel))) (by decide +kernel)
theorem mw_inst_TripleLinesModel : (.instantiable R_TripleLinesModel 29 : Cond) ∈ tk_tbl := tk_in (List.mem_append_right _ (List.mem_of_getElem? (i := 495) (by decide +kernel))) (by decide +kernel)
theorem mw_ini_TripleLinesModel : (.initialized R_TripleLinesModel : Cond) ∈ tk_tbl := tk_in (List.mem_append_right _ (List.mem_of_getElem? (i := 8) (by decide +kernel))) (by decide +kernel)
set_option maxRecDepth 20000 in
theorem kn_TripleLines_init : tk_okn y_TripleLines_init b_TripleLines_init 1 0 := ⟨tk_in (List.mem_append_right _ (List.mem_of_getElem? (i := 13) (by rfl))) (by rfl), tk_in (List.mem_append_right _ (List.mem_of_getElem? (i := 12) (by decide +kernel))) (by decide +kernel), tk_in (List.mem_append_right _ (List.mem_of_getElem? (i := 1) (by decide +kernel))) (by decide +kernel), rfl, by decide +kernel⟩
set_option maxRecDepth 20000 in
theorem kn_TripleLinesModel_init : tk_okn y_TripleLinesModel_init b_TripleLinesModel_init 1 0 := ⟨tk_in (List.mem_append_right _ (List.mem_of_getElem? (i := 498) (by rfl))) (by rfl), tk_in (List.mem_append_right _ (List.mem_of_getElem? (i := 497) (by decide +kernel))) (by decide +kernel), tk_in (List.mem_append_right _ (List.mem_of_getElem? (i := 8) (by decide +kernel))) (by decide +kernel), rfl, by decide +kernel⟩
set_option maxRecDepth 20000 in
theorem kn_Printer_init : tk_okn y_Printer_init b_Printer_init 3 2 := ⟨tk_in (List.mem_append_right _ (List.mem_of_getElem? (i := 151) (by rfl))) (by rfl), tk_in (List.mem_append_right _ (List.mem_of_getElem? (i := 150) (by decide +kernel))) (by decide +kernel), tk_in (List.mem_append_right _ (List.mem_of_getElem? (i := 7) (by decide +kernel))) (by decide +kernel), rfl, by decide +kernel⟩
set_option maxRecDepth 20000 in
theorem kn_Quads_init : tk_okn y_Quads_init b_Quads_init 1 0 := ⟨tk_in (List.mem_append_right _ (List.mem_of_getElem? (i := 92) (by rfl))) (by rfl), tk_in (List.mem_append_right _ (List.mem_of_getElem? (i := 91) (by decide +kernel))) (by decide +kernel), tk_in (List.mem_append_right _ (List.mem_of_getElem? (i := 5) (by decide +kernel))) (by decide +kernel), rfl, by decide +kernel⟩
set_option maxRecDepth 20000 in
theorem kn_Reader_init : tk_okn y_Reader_init b_Reader_init 4 3 := ⟨tk_in (List.mem_append_right _ (List.mem_of_getElem? (i := 111) (by rfl))) (by rfl), tk_in (List.mem_append_right _ (List.mem_of_getElem? (i := 110) (by decide +kernel))) (by decide +kernel), tk_in (List.mem_append_right _ (List.mem_of_getElem? (i := 6) (by decide +kernel))) (by decide +kernel), rfl, by decide +kernel⟩
set_option maxRecDepth 20000 in
theorem kn_Row_init : tk_okn y_Row_init b_Row_init 2 1 := ⟨tk_in (List.mem_append_right _ (List.mem_of_getElem? (i := 21) (by rfl))) (by rfl), tk_in (List.mem_append_right _ (List.mem_of_getElem? (i := 20) (by decide +kernel))) (by decide +kernel), tk_in (List.mem_append_right _ (List.mem_of_getElem? (i := 2) (by decide +kernel))) (by decide +kernel), rfl, by decide +kernel⟩
set_option maxRecDepth 20000 in
theorem kn_Terms_init : tk_okn y_Terms_init b_Terms_init 1 0 := ⟨tk_in (List.mem_append_right _ (List.mem_of_getElem? (i := 47) (by rfl))) (by rfl), tk_in (List.mem_append_right _ (List.mem_of_getElem? (i := 46) (by decide +kernel))) (by decide +kernel), tk_in (List.mem_append_right _ (List.mem_of_getElem? (i := 4) (by decide +kernel))) (by decide +kernel), rfl, by decide +kernel⟩
