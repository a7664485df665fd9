/-! contracts: one word list for all, a depth for the room, the numbers behind the ints -/
def tk_rm (d : Nat) : Room := { frames := d, cells := 0, slots := 0, locals := 30 * d }
def tk_ws (y : MethodName) (b : ByteArray) (maxL : Nat) (ret : Option FieldType) : List Cond := .code y b maxL ret :: tk_tbl
def tk_pre (D : va_G) (tys : List (ClassId × FieldType)) (as : List Value) (ws : va_W) (sz : Nat) : Array Value → State → Prop := va_Pc as (fun U => U.heap.size = sz ∧ va_P D classes ws U.heap ∧ va_K D classes tys U ∧ va_D (fun _ => True) ws)
def tk_post (D : va_G) (tys : List (ClassId × FieldType)) (A : Nat → Prop) {S : Type} (wo : S → va_W) (u : S) (t : State) : Prop := va_P D classes (wo u) t.heap ∧ va_K D classes tys t ∧ va_D A (wo u)
def CtI (l : Launch) (D : va_G) (tys : List (ClassId × FieldType)) (y : MethodName) (b : ByteArray) (maxL : Nat) (ret : Option FieldType) (d : Nat) (as : List Value) (ws : va_W) {S : Type} (post : Int → S → Prop) (wo : S → va_W) : Prop :=
  ∀ sz, Met l y (tk_ws y b maxL ret) (tk_rm d) (tk_pre D tys as ws sz) (va_Qi (fun r u => ∃ z, r = iI z ∧ (-2147483648 ≤ z ∧ z < 2147483648) ∧ post z u) (tk_post D tys (va_A ws sz) wo) (va_A ws sz)) 0 0 (va_A ws sz)
def CtV (l : Launch) (D : va_G) (tys : List (ClassId × FieldType)) (y : MethodName) (b : ByteArray) (maxL : Nat) (d : Nat) (as : List Value) (ws : va_W) {S : Type} (post : S → Prop) (wo : S → va_W) : Prop :=
  ∀ sz, Met l y (tk_ws y b maxL none) (tk_rm d) (tk_pre D tys as ws sz) (va_Qv post (tk_post D tys (va_A ws sz) wo) (va_A ws sz)) 0 0 (va_A ws sz)
theorem CtI.walk {l : Launch} {D : va_G} {tys : List (ClassId × FieldType)} {y : MethodName} {b : ByteArray} {maxL : Nat} {rt : FieldType} {d : Nat} {as : List Value} {ws : va_W} {S : Type} {post : Int → S → Prop} {wo : S → va_W}
    (ok : Int → Prop) (hok : ∀ z, ok z → narrow rt (.int (iI z)) = .int (iI z)) (hy : plainName y.cls = true) (hlen : (lg_sl as).length ≤ maxL)
    (body : ∀ (p : Program) (e : Env) (s : State) (m : MethodId) (ar : Array Value) (below : List Frame) (meth : Method) (c : Code) (A : Nat → Prop) (Q : State → Prop), p.tables.exec = Jvm.exec → c.code = b → c.maxLocals = maxL → s.vm.findClass y.cls = some m.cls → (∀ w ∈ tk_tbl, w.before ar s = true) → va_P D classes ws s.heap → va_K D classes tys s → va_D A ws → (∀ q, s.heap.size ≤ q → A q) →
      (∀ (pc : Nat) (ls : Array Slot) (H : Heap) (locs : List Loc) (z : Int) (u : S), decode b pc = .ok (.ireturn, 1) → ok z → (-2147483648 ≤ z ∧ z < 2147483648) → post z u → va_P D classes (wo u) H → va_D A (wo u) → va_S A s.heap H locs → W p l e (tk_rm d) s m ar below meth c H locs 0 0 Q (F0 m pc ls [.int (iI z)])) →
      ∀ ls : Array Slot, lv_has ls maxL (lv_args 0 as) → va_S A s.heap s.heap [] → W p l e (tk_rm d) s m ar below meth c s.heap [] 0 0 Q (F0 m 0 ls [])) : CtI l D tys y b maxL (some rt) d as ws post wo := by
  intro sz
  refine Met.ofW (cc := b) (maxL := maxL) (ret := some rt) hy rfl ?_
  intro p e s m args below meth c s₁ B hml hv
  obtain ⟨rfl, hsz, hP, hK, hD0⟩ := hv
  have hts := atoms_spec (ws := tk_ws y b maxL (some rt)) B.pre
  have hown : s.vm.findClass y.cls = some m.cls := findClass_of_methodNamed B.named
  have hlocks := B.notSynchronized
  have hr := B.returns
  have hx := B.exec
  have hb := B.bytes
  subst hsz
  have hD := hD0.self (sz := s.heap.size)
  generalize hAe : va_A ws s.heap.size = A at hD ⊢
  have hA : ∀ q : Nat, s.heap.size ≤ q → A q := fun q h => by rw [← hAe]; exact Or.inr h
  have hl := lv_entry as (n := maxL) hlen
  rw [lg_entry_eq]
  generalize (lg_sl as ++ List.replicate (maxL - (lg_sl as).length) Slot.unset).toArray = ls at hl ⊢
  refine body p e s m _ below meth c A _ hx hb hml hown (fun w hw => hts w (List.mem_cons_of_mem _ hw)) hP hK hD hA ?_ ls hl va_S.rf
  intro pc ls H locs z u hd hz hrz hp hP hD hS
  exact W.zret (v := iI z) hx hb hr (hok z hz) (fun t ht hW => ⟨⟨iI z, u, rfl, ⟨z, rfl, hrz, hp⟩, by rw [ht]; exact hP, va_K.moved hW.alike hK, hD⟩, hS.F ht⟩) hS.2.2 hd
theorem CtV.walk {l : Launch} {D : va_G} {tys : List (ClassId × FieldType)} {y : MethodName} {b : ByteArray} {maxL : Nat} {d : Nat} {as : List Value} {ws : va_W} {S : Type} {post : S → Prop} {wo : S → va_W}
    (hy : plainName y.cls = true) (hlen : (lg_sl as).length ≤ maxL)
    (body : ∀ (p : Program) (e : Env) (s : State) (m : MethodId) (ar : Array Value) (below : List Frame) (meth : Method) (c : Code) (A : Nat → Prop) (Q : State → Prop), p.tables.exec = Jvm.exec → c.code = b → c.maxLocals = maxL → s.vm.findClass y.cls = some m.cls → (∀ w ∈ tk_tbl, w.before ar s = true) → va_P D classes ws s.heap → va_K D classes tys s → va_D A ws → (∀ q, s.heap.size ≤ q → A q) →
      (∀ (pc : Nat) (ls : Array Slot) (H : Heap) (locs : List Loc) (u : S), decode b pc = .ok (.return_, 1) → post u → va_P D classes (wo u) H → va_D A (wo u) → va_S A s.heap H locs → W p l e (tk_rm d) s m ar below meth c H locs 0 0 Q (F0 m pc ls [])) →
      ∀ ls : Array Slot, lv_has ls maxL (lv_args 0 as) → va_S A s.heap s.heap [] → W p l e (tk_rm d) s m ar below meth c s.heap [] 0 0 Q (F0 m 0 ls [])) : CtV l D tys y b maxL d as ws post wo := by
  intro sz
  refine Met.ofW (cc := b) (maxL := maxL) (ret := none) hy rfl ?_
  intro p e s m args below meth c s₁ B hml hv
  obtain ⟨rfl, hsz, hP, hK, hD0⟩ := hv
  have hts := atoms_spec (ws := tk_ws y b maxL none) B.pre
  have hown : s.vm.findClass y.cls = some m.cls := findClass_of_methodNamed B.named
  have hlocks := B.notSynchronized
  have hr := B.returns
  have hx := B.exec
  have hb := B.bytes
  subst hsz
  have hD := hD0.self (sz := s.heap.size)
  generalize hAe : va_A ws s.heap.size = A at hD ⊢
  have hA : ∀ q : Nat, s.heap.size ≤ q → A q := fun q h => by rw [← hAe]; exact Or.inr h
  have hl := lv_entry as (n := maxL) hlen
  rw [lg_entry_eq]
  generalize (lg_sl as ++ List.replicate (maxL - (lg_sl as).length) Slot.unset).toArray = ls at hl ⊢
  refine body p e s m _ below meth c A _ hx hb hml hown (fun w hw => hts w (List.mem_cons_of_mem _ hw)) hP hK hD hA ?_ ls hl va_S.rf
  intro pc ls H locs u hd hp hP hD hS
  exact W.vret hx hb hr (fun t ht hW => ⟨⟨u, rfl, hp, by rw [ht]; exact hP, va_K.moved hW.alike hK, hD⟩, hS.F ht⟩) hS.2.2 hd
theorem tk_fm {α β : Type} {f : α → Option β} {is : List α} {w : List β} (h : is.map f = w.map some) : is.filterMap f = w := by
  induction is generalizing w with
  | nil => cases w with
    | nil => rfl
    | cons a w => simp at h
  | cons i is ih => cases w with
    | nil => simp at h
    | cons a w =>
      simp only [List.map_cons, List.cons.injEq] at h
      rw [List.filterMap_cons, h.1]
      simp [ih h.2]
theorem tk_good : GoodIn tk_tbl tk_tbl := fun _ hw => ⟨hw, good_of_word (List.mem_filter.mp hw).2⟩
theorem tk_goodc {y : MethodName} {b : ByteArray} {maxL : Nat} {ret : Option FieldType} (h : Cond.code y b maxL ret ∈ tk_tbl) : GoodIn tk_tbl (tk_ws y b maxL ret) := by
  intro w hw
  rcases List.mem_cons.mp hw with rfl | hw
  · exact tk_good _ h
  · exact tk_good _ hw
/-- an instance method's words -/
def tk_ok (y : MethodName) (b : ByteArray) (maxL : Nat) (ret : Option FieldType) (n : Nat) : Prop :=
  Cond.code y b maxL ret ∈ tk_tbl ∧ Cond.instanceMethod y ∈ tk_tbl ∧ Cond.selects y.cls y y ∈ tk_tbl ∧ Cond.initialized y.cls ∈ tk_tbl ∧ (y.cls ≠ "java/lang/invoke/MethodHandle" ∧ y.cls ≠ "java/lang/invoke/VarHandle" ∧ (parseMethodDescriptor y.desc).map (fun d => d.parameters.length) = some n)
/-- a static method's words -/
def tk_oks (y : MethodName) (b : ByteArray) (maxL : Nat) (ret : Option FieldType) (n : Nat) : Prop :=
  Cond.code y b maxL ret ∈ tk_tbl ∧ Cond.static y ∈ tk_tbl ∧ Cond.initialized y.cls ∈ tk_tbl ∧ (y.cls ≠ "java/lang/invoke/MethodHandle" ∧ y.cls ≠ "java/lang/invoke/VarHandle" ∧ (parseMethodDescriptor y.desc).map (fun d => d.parameters.length) = some n)
section TKC
variable {p : Program} {l : Launch} {e : Env} {R : Room} {s : State} {m : MethodId} {args : Array Value} {below : List Frame} {meth : Method} {c : Code} {H : Heap} {locs : List Loc} {cells slots : Nat} {Q : State → Prop}
variable {cc : ByteArray} {pc : Nat} {ls : Array Slot} {rest st : List Value} {D : va_G} {A : Nat → Prop} {tys : List (ClassId × FieldType)} {ws wc wr : va_W} {H0 : Heap} {own : String} {index nL maxL d n bb ci : Nat} {y : MethodName} {b : ByteArray} {ret : Option FieldType} {As : List Value} {S : Type} {wo wn : S → va_W} {cq : vw_C} {fs : List Value}
theorem tk_pre_blind {as : List Value} {sz : Nat} : FrameBlind (tk_pre D tys as ws sz) := by
  intro a U g mk q
  obtain ⟨q0, q1, qP, qK, qD⟩ := q
  exact ⟨q0, q1, qP, va_K.moved (u := U) (U := U.calling g mk a) (Vm.Alike.refl U.vm) qK, qD⟩
theorem tk_callB (hts : ∀ w ∈ tk_tbl, w.before args s = true) (hc : Cond.code y b maxL ret ∈ tk_tbl) (hi : Cond.initialized y.cls ∈ tk_tbl) (hl : Cond.methodLink own index y ∈ tk_tbl) (hd : y.cls ≠ "java/lang/invoke/MethodHandle" ∧ y.cls ≠ "java/lang/invoke/VarHandle" ∧ (parseMethodDescriptor y.desc).map (fun d => d.parameters.length) = some n) (hR : d + 1 ≤ R.frames ∧ 8 + (maxL + 11) + 30 * d ≤ R.locals) : CallB R s args own index y b maxL ret (tk_ws y b maxL ret) (tk_rm d) 0 0 n :=
  callB_of n hts (tk_goodc hc) rfl rfl rfl (hts _ hi) (hts _ hl) hd hR
/-- behind a call: the caller's world in its old order -/
theorem tk_after {H1 : Heap} {w1 w2 : va_W} (hP : va_P D classes ws H) (hD : va_D A ws) (isC isR perm : List Nat) (hC : isC.map (fun i => ws[i]?) = wc.map some) (hRr : isR.map (fun i => ws[i]?) = wr.map some) (hn : va_nd isR = true) (hdis : ∀ i ∈ isR, i ∉ isC) (hpn : va_nd perm = true) (hp : perm.map (fun i => (wr ++ w1)[i]?) = w2.map some)
    (hk : ∀ q : Nat, q < H.size → ¬ va_A wc H.size q → H1[q]? = H[q]?) (hF : ∀ q, va_A wc H.size q → A q) (hP1 : va_P D classes w1 H1) (hD1 : va_D (va_A wc H.size) w1) : va_P D classes w2 H1 ∧ va_D A w2 := by
  obtain ⟨h1, h2⟩ := va_join (wr := wr) (w1 := w1) hP hD isC isR hC hRr hn hdis hk hF hP1 hD1
  exact ⟨h1.sub perm (tk_fm hp), h2.sub perm hpn hp⟩
theorem tk_callVi {post : Int → S → Prop} (S0 : CallFix p m c cc nL s args tk_tbl own) (hM : CtI l D tys y b maxL ret d (.ref bb :: As) wc post wo) (hy : tk_ok y b maxL ret n) (hlnk : Cond.methodLink own index y ∈ tk_tbl) (hR : d + 1 ≤ R.frames ∧ 8 + (maxL + 11) + 30 * d ≤ R.locals)
    (hK : va_K D classes tys s) (hP : va_P D classes ws H) (hD : va_D A ws) (hS : va_S A H0 H locs) (hA : ∀ q, H0.size ≤ q → A q) (hn : As.length = n) (hls : ls.size = nL) (hst : st = As.reverse ++ .ref bb :: rest) (hrest : (rest.map fun v => v.category).sum ≤ 8) (hdg : decode cc pc = .ok (.invokevirtual index, 3)) (hf : cells ≤ R.cells ∧ slots ≤ R.slots)
    (isC isR perm : List Nat) (hC : isC.map (fun i => ws[i]?) = wc.map some) (hRr : isR.map (fun i => ws[i]?) = wr.map some) (hcn : va_nd isC = true) (hnd : va_nd isR = true) (hdis : ∀ i ∈ isR, i ∉ isC) (hpn : va_nd perm = true) (hp : ∀ u, perm.map (fun i => (wr ++ wo u)[i]?) = (wn u).map some) (hq : wc[0]? = some (bb, .inr (ci, fs))) (hci : classes[ci]? = some cq) (hcq : cq.1 = y.cls)
    (kk : ∀ (z : Int) (u : S) (H1 : Heap) (locs1 : List Loc), (-2147483648 ≤ z ∧ z < 2147483648) → post z u → va_P D classes (wn u) H1 → va_D A (wn u) → va_S A H0 H1 locs1 → W p l e R s m args below meth c H1 locs1 cells slots Q (F0 m (pc + 3) ls (.int (iI z) :: rest))) : W p l e R s m args below meth c H locs cells slots Q (F0 m pc ls st) := by
  subst hst
  have hPc : va_P D classes wc H := hP.sub isC (tk_fm hC)
  have hFc := va_free (wc := wc) hD hS hA isC hC
  obtain ⟨hx, hb, hml, hown, hts⟩ := S0
  have hDc : va_D (fun _ => True) wc := (hD.sub isC hcn hC).weaken (fun _ _ _ _ => trivial)
  obtain ⟨hy1, hy2, hy3, hy4, hy5⟩ := hy
  have hrc := va_recv hK hPc hci hq
  rw [hcq] at hrc
  refine va_calli (va_runV (C := y.cls) (As := As) (rest := rest) ⟨hx, hb, hml, hown, hts⟩ (hM H.size) ⟨tk_callB hts hy1 hy4 hlnk hy5 hR, hts _ hy2, hts _ hy3⟩ ⟨tk_pre_blind, hrc, fun U hU hW => ⟨rfl, by rw [hU], by rw [hU]; exact hPc, va_K.moved hW.alike hK, hDc⟩⟩ rfl hn hls rfl (lv_room hrest) hdg ⟨hf.1, hf.2⟩) hS (fun q _ h => hFc q h) hFc ?_
  intro r u t H1 locs1 ht hvm hw hB hz1 hk1 hS1
  obtain ⟨z, rfl, hrz, hw⟩ := hw
  obtain ⟨hP1, hK1, hD1⟩ := hB
  rw [ht] at hP1
  obtain ⟨hP2, hD2⟩ := tk_after hP hD isC isR perm hC hRr hnd hdis hpn (hp u) hk1 hFc hP1 hD1
  exact kk z u H1 locs1 hrz hw hP2 hD2 hS1
theorem tk_callVv {post : S → Prop} (S0 : CallFix p m c cc nL s args tk_tbl own) (hM : CtV l D tys y b maxL d (.ref bb :: As) wc post wo) (hy : tk_ok y b maxL none n) (hlnk : Cond.methodLink own index y ∈ tk_tbl) (hR : d + 1 ≤ R.frames ∧ 8 + (maxL + 11) + 30 * d ≤ R.locals)
    (hK : va_K D classes tys s) (hP : va_P D classes ws H) (hD : va_D A ws) (hS : va_S A H0 H locs) (hA : ∀ q, H0.size ≤ q → A q) (hn : As.length = n) (hls : ls.size = nL) (hst : st = As.reverse ++ .ref bb :: rest) (hrest : (rest.map fun v => v.category).sum ≤ 8) (hdg : decode cc pc = .ok (.invokevirtual index, 3)) (hf : cells ≤ R.cells ∧ slots ≤ R.slots)
    (isC isR perm : List Nat) (hC : isC.map (fun i => ws[i]?) = wc.map some) (hRr : isR.map (fun i => ws[i]?) = wr.map some) (hcn : va_nd isC = true) (hnd : va_nd isR = true) (hdis : ∀ i ∈ isR, i ∉ isC) (hpn : va_nd perm = true) (hp : ∀ u, perm.map (fun i => (wr ++ wo u)[i]?) = (wn u).map some) (hq : wc[0]? = some (bb, .inr (ci, fs))) (hci : classes[ci]? = some cq) (hcq : cq.1 = y.cls)
    (kk : ∀ (u : S) (H1 : Heap) (locs1 : List Loc), post u → va_P D classes (wn u) H1 → va_D A (wn u) → va_S A H0 H1 locs1 → W p l e R s m args below meth c H1 locs1 cells slots Q (F0 m (pc + 3) ls rest)) : W p l e R s m args below meth c H locs cells slots Q (F0 m pc ls st) := by
  subst hst
  have hPc : va_P D classes wc H := hP.sub isC (tk_fm hC)
  have hFc := va_free (wc := wc) hD hS hA isC hC
  obtain ⟨hx, hb, hml, hown, hts⟩ := S0
  have hDc : va_D (fun _ => True) wc := (hD.sub isC hcn hC).weaken (fun _ _ _ _ => trivial)
  obtain ⟨hy1, hy2, hy3, hy4, hy5⟩ := hy
  have hrc := va_recv hK hPc hci hq
  rw [hcq] at hrc
  refine va_callv (va_runV (C := y.cls) (As := As) (rest := rest) ⟨hx, hb, hml, hown, hts⟩ (hM H.size) ⟨tk_callB hts hy1 hy4 hlnk hy5 hR, hts _ hy2, hts _ hy3⟩ ⟨tk_pre_blind, hrc, fun U hU hW => ⟨rfl, by rw [hU], by rw [hU]; exact hPc, va_K.moved hW.alike hK, hDc⟩⟩ rfl hn hls rfl (lv_room hrest) hdg ⟨hf.1, hf.2⟩) hS (fun q _ h => hFc q h) hFc ?_
  intro u t H1 locs1 ht hvm hw hB hz1 hk1 hS1
  obtain ⟨hP1, hK1, hD1⟩ := hB
  rw [ht] at hP1
  obtain ⟨hP2, hD2⟩ := tk_after hP hD isC isR perm hC hRr hnd hdis hpn (hp u) hk1 hFc hP1 hD1
  exact kk u H1 locs1 hw hP2 hD2 hS1
theorem tk_callSi {post : Int → S → Prop} (S0 : CallFix p m c cc nL s args tk_tbl own) (hM : CtI l D tys y b maxL ret d As wc post wo) (hy : tk_oks y b maxL ret n) (hlnk : Cond.methodLink own index y ∈ tk_tbl) (hR : d + 1 ≤ R.frames ∧ 8 + (maxL + 11) + 30 * d ≤ R.locals)
    (hK : va_K D classes tys s) (hP : va_P D classes ws H) (hD : va_D A ws) (hS : va_S A H0 H locs) (hA : ∀ q, H0.size ≤ q → A q) (hn : As.length = n) (hls : ls.size = nL) (hst : st = As.reverse ++ rest) (hrest : (rest.map fun v => v.category).sum ≤ 8) (hdg : decode cc pc = .ok (.invokestatic index, 3)) (hf : cells ≤ R.cells ∧ slots ≤ R.slots)
    (isC isR perm : List Nat) (hC : isC.map (fun i => ws[i]?) = wc.map some) (hRr : isR.map (fun i => ws[i]?) = wr.map some) (hcn : va_nd isC = true) (hnd : va_nd isR = true) (hdis : ∀ i ∈ isR, i ∉ isC) (hpn : va_nd perm = true) (hp : ∀ u, perm.map (fun i => (wr ++ wo u)[i]?) = (wn u).map some)
    (kk : ∀ (z : Int) (u : S) (H1 : Heap) (locs1 : List Loc), (-2147483648 ≤ z ∧ z < 2147483648) → post z u → va_P D classes (wn u) H1 → va_D A (wn u) → va_S A H0 H1 locs1 → W p l e R s m args below meth c H1 locs1 cells slots Q (F0 m (pc + 3) ls (.int (iI z) :: rest))) : W p l e R s m args below meth c H locs cells slots Q (F0 m pc ls st) := by
  subst hst
  have hPc : va_P D classes wc H := hP.sub isC (tk_fm hC)
  have hFc := va_free (wc := wc) hD hS hA isC hC
  obtain ⟨hx, hb, hml, hown, hts⟩ := S0
  have hDc : va_D (fun _ => True) wc := (hD.sub isC hcn hC).weaken (fun _ _ _ _ => trivial)
  obtain ⟨hy1, hy2, hy4, hy5⟩ := hy
  refine va_calli (va_runS (As := As) (rest := rest) ⟨hx, hb, hml, hown, hts⟩ (hM H.size) ⟨tk_callB hts hy1 hy4 hlnk hy5 hR, hts _ hy2⟩ ⟨tk_pre_blind, fun U hU hW => ⟨rfl, by rw [hU], by rw [hU]; exact hPc, va_K.moved hW.alike hK, hDc⟩⟩ rfl hn hls rfl (lv_room hrest) hdg ⟨hf.1, hf.2⟩) hS (fun q _ h => hFc q h) hFc ?_
  intro r u t H1 locs1 ht hvm hw hB hz1 hk1 hS1
  obtain ⟨z, rfl, hrz, hw⟩ := hw
  obtain ⟨hP1, hK1, hD1⟩ := hB
  rw [ht] at hP1
  obtain ⟨hP2, hD2⟩ := tk_after hP hD isC isR perm hC hRr hnd hdis hpn (hp u) hk1 hFc hP1 hD1
  exact kk z u H1 locs1 hrz hw hP2 hD2 hS1
theorem tk_callSv {post : S → Prop} (S0 : CallFix p m c cc nL s args tk_tbl own) (hM : CtV l D tys y b maxL d As wc post wo) (hy : tk_oks y b maxL none n) (hlnk : Cond.methodLink own index y ∈ tk_tbl) (hR : d + 1 ≤ R.frames ∧ 8 + (maxL + 11) + 30 * d ≤ R.locals)
    (hK : va_K D classes tys s) (hP : va_P D classes ws H) (hD : va_D A ws) (hS : va_S A H0 H locs) (hA : ∀ q, H0.size ≤ q → A q) (hn : As.length = n) (hls : ls.size = nL) (hst : st = As.reverse ++ rest) (hrest : (rest.map fun v => v.category).sum ≤ 8) (hdg : decode cc pc = .ok (.invokestatic index, 3)) (hf : cells ≤ R.cells ∧ slots ≤ R.slots)
    (isC isR perm : List Nat) (hC : isC.map (fun i => ws[i]?) = wc.map some) (hRr : isR.map (fun i => ws[i]?) = wr.map some) (hcn : va_nd isC = true) (hnd : va_nd isR = true) (hdis : ∀ i ∈ isR, i ∉ isC) (hpn : va_nd perm = true) (hp : ∀ u, perm.map (fun i => (wr ++ wo u)[i]?) = (wn u).map some)
    (kk : ∀ (u : S) (H1 : Heap) (locs1 : List Loc), post u → va_P D classes (wn u) H1 → va_D A (wn u) → va_S A H0 H1 locs1 → W p l e R s m args below meth c H1 locs1 cells slots Q (F0 m (pc + 3) ls rest)) : W p l e R s m args below meth c H locs cells slots Q (F0 m pc ls st) := by
  subst hst
  have hPc : va_P D classes wc H := hP.sub isC (tk_fm hC)
  have hFc := va_free (wc := wc) hD hS hA isC hC
  obtain ⟨hx, hb, hml, hown, hts⟩ := S0
  have hDc : va_D (fun _ => True) wc := (hD.sub isC hcn hC).weaken (fun _ _ _ _ => trivial)
  obtain ⟨hy1, hy2, hy4, hy5⟩ := hy
  refine va_callv (va_runS (As := As) (rest := rest) ⟨hx, hb, hml, hown, hts⟩ (hM H.size) ⟨tk_callB hts hy1 hy4 hlnk hy5 hR, hts _ hy2⟩ ⟨tk_pre_blind, fun U hU hW => ⟨rfl, by rw [hU], by rw [hU]; exact hPc, va_K.moved hW.alike hK, hDc⟩⟩ rfl hn hls rfl (lv_room hrest) hdg ⟨hf.1, hf.2⟩) hS (fun q _ h => hFc q h) hFc ?_
  intro u t H1 locs1 ht hvm hw hB hz1 hk1 hS1
  obtain ⟨hP1, hK1, hD1⟩ := hB
  rw [ht] at hP1
  obtain ⟨hP2, hD2⟩ := tk_after hP hD isC isR perm hC hRr hnd hdis hpn (hp u) hk1 hFc hP1 hD1
  exact kk u H1 locs1 hw hP2 hD2 hS1
end TKC
