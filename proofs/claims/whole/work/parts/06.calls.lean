/-! Calls: of pure methods, of methods that write, of methods that may throw. -/
def kBase (y : MethodName) (np : Nat) : Prop := y.cls ≠ "java/lang/invoke/MethodHandle" ∧ y.cls ≠ "java/lang/invoke/VarHandle" ∧ (parseMethodDescriptor y.desc).map (fun d => d.parameters.length) = some np
/-- the words of a static call -/
def kS (own : String) (ix : Nat) (y : MethodName) (cc : ByteArray) (n : Nat) (r : Option FieldType) (np : Nat) : Prop :=
  Cond.methodLink own ix y ∈ tbg ∧ Cond.static y ∈ tbg ∧ Cond.initialized y.cls ∈ tbg ∧ Cond.code y cc n r ∈ tbg ∧ kBase y np
/-- the words of a call on an object -/
def kV (own : String) (ix : Nat) (y : MethodName) (cc : ByteArray) (n : Nat) (r : Option FieldType) (np : Nat) : Prop :=
  Cond.methodLink own ix y ∈ tbg ∧ Cond.instanceMethod y ∈ tbg ∧ Cond.selects y.cls y y ∈ tbg ∧ Cond.initialized y.cls ∈ tbg ∧ Cond.code y cc n r ∈ tbg ∧ kBase y np
/-- the same, of a private method of a nest mate -/
def kN (own host : String) (ix : Nat) (y : MethodName) (cc : ByteArray) (n : Nat) (r : Option FieldType) (np : Nat) : Prop :=
  Cond.methodLinkNest own ix y host ∈ tbg ∧ Cond.instanceMethod y ∈ tbg ∧ Cond.selects y.cls y y ∈ tbg ∧ Cond.initialized y.cls ∈ tbg ∧ Cond.code y cc n r ∈ tbg ∧ kBase y np
theorem k_len {y : MethodName} {np : Nat} (h : kBase y np) : ∀ sig, parseMethodDescriptor y.desc = some sig → np = sig.parameters.length := by
  intro sig hs
  have h2 := h.2.2
  rw [hs] at h2
  exact (Option.some.inj h2).symm
theorem k_code {s U : State} {y : MethodName} {cc : ByteArray} {n : Nat} {r : Option FieldType} (hk : tk s) (h : Cond.code y cc n r ∈ tbg) (hW : s.WarmedH U.vm) (a : Array Value) : (Cond.code y cc n r).before a U = true := tk_warm hW hk _ h a
theorem k_ws {s : State} {y : MethodName} {cc : ByteArray} {n : Nat} {r : Option FieldType} (hk : tk s) (h : Cond.code y cc n r ∈ tbg) : ∀ w ∈ [Cond.code y cc n r], ∀ (a' : Array Value) (U : State), s.WarmedH U.vm → w.before a' U = true := by
  intro w hw a' U hW
  rw [List.mem_singleton] at hw
  subst hw
  exact k_code hk h hW a'
abbrev kR (R rm : Room) (maxL cells slots : Nat) : Prop := rm.frames + 1 ≤ R.frames ∧ 8 + (maxL + 11) + rm.locals ≤ R.locals ∧ cells + rm.cells ≤ R.cells ∧ slots + rm.slots ≤ R.slots
section KC
variable {p : Program} {l : Launch} {e : Env} {R : Room} {s : State} {m : MethodId} {args : Array Value} {below : List Frame} {meth : Method} {c : Code} {H : Heap} {locs : List Loc} {cells slots : Nat} {Q : State → Prop}
variable {cc bytes : ByteArray} {pc maxL np ix : Nat} {ls : Array Slot} {rest st0 av As : List Value} {own host : String} {y : MethodName} {ret : Option FieldType} {rm : Room} {D : va_G} {tys : List (ClassId × FieldType)} {wc : va_W} {v : Value}
theorem c_pre (hk : tk s) (hK : va_K D vwCl tys s) (hP : va_P D vwCl wc H) (hD : va_D (fun _ => True) wc) : ∀ U : State, U.heap = H → s.WarmedH U.vm → cPre D tys av wc av.toArray U :=
  fun U hU hW => ⟨rfl, tk_warm hW hk, va_K.moved hW.alike hK, by rw [hU]; exact hP, hD⟩
theorem p_callS (hx : p.tables.exec = Jvm.exec) (hb : c.code = cc) (hml : c.maxLocals = ls.size) (hown : s.vm.findClass own = some m.cls) (hk : tk s) (hK : va_K D vwCl tys s) (K : kS own ix y bytes maxL ret np) (hM : pMet l y bytes maxL ret rm D tys av wc v)
    (hP : va_P D vwCl wc H) (hD : va_D (fun _ => True) wc) (hst : st0 = av.reverse ++ rest) (hav : av.length = np) (hrm : rm.cells = 0 ∧ rm.slots = 0) (hR : kR R rm maxL cells slots) (hcat : (rest.map fun v => v.category).sum ≤ 8) (hdg : decode cc pc = .ok (.invokestatic ix, 3))
    (kk : W p l e R s m args below meth c H locs cells slots Q (F0 m (pc + 3) ls (v :: rest))) : W p l e R s m args below meth c H locs cells slots Q (F0 m pc ls st0) := by
  obtain ⟨k1, k2, k3, k4, k5⟩ := K
  obtain ⟨r1, r2, r3, r4⟩ := hR
  rw [hrm.1] at r3
  rw [hrm.2] at r4
  exact p_run (a := av.toArray) (va_runS (Ts := []) ⟨hx, hb, hml, hown, fun w h => by cases h⟩ hM ⟨⟨hrm.1, hrm.2, r1, r2, k_ws hk k4, List.mem_cons_self, hk _ k4 args, hk _ k3 args, ⟨k5.1, k5.2.1⟩, k_len k5, hk _ k1 args⟩, hk _ k2 args⟩ ⟨cPre_blind, c_pre hk hK hP hD⟩ rfl hav rfl hst (lv_room hcat) hdg ⟨r3, r4⟩) kk
theorem p_callV {b : Addr} {ci q0 : Nat} {fs : List Value} {T : u_T} {N : Nat} (hx : p.tables.exec = Jvm.exec) (hb : c.code = cc) (hml : c.maxLocals = ls.size) (hown : s.vm.findClass own = some m.cls) (hk : tk s) (hK : va_K D vwCl tys s) (K : kV own ix y bytes maxL ret np) (hM : pMet l y bytes maxL ret rm D tys (.ref b :: As) wc v)
    (hP : va_P D vwCl wc H) (hD : va_D (fun _ => True) wc) (he : wc[q0]? = some (b, .inr (ci, fs))) (hc : vwCl[ci]? = some (y.cls, T, N)) (hst : st0 = As.reverse ++ .ref b :: rest) (hav : As.length = np) (hrm : rm.cells = 0 ∧ rm.slots = 0) (hR : kR R rm maxL cells slots) (hcat : (rest.map fun v => v.category).sum ≤ 8) (hdg : decode cc pc = .ok (.invokevirtual ix, 3))
    (kk : W p l e R s m args below meth c H locs cells slots Q (F0 m (pc + 3) ls (v :: rest))) : W p l e R s m args below meth c H locs cells slots Q (F0 m pc ls st0) := by
  obtain ⟨k1, k2, k2', k3, k4, k5⟩ := K
  obtain ⟨r1, r2, r3, r4⟩ := hR
  rw [hrm.1] at r3
  rw [hrm.2] at r4
  exact p_run (a := (Value.ref b :: As).toArray) (va_runV (C := y.cls) (Ts := []) ⟨hx, hb, hml, hown, fun w h => by cases h⟩ hM ⟨⟨hrm.1, hrm.2, r1, r2, k_ws hk k4, List.mem_cons_self, hk _ k4 args, hk _ k3 args, ⟨k5.1, k5.2.1⟩, k_len k5, hk _ k1 args⟩, hk _ k2 args, hk _ k2' args⟩ ⟨cPre_blind, va_recv hK hP hc he, c_pre hk hK hP hD⟩ rfl hav rfl hst (lv_room hcat) hdg ⟨r3, r4⟩) kk
theorem p_callN {b : Addr} {ci q0 : Nat} {fs : List Value} {T : u_T} {N : Nat} (hx : p.tables.exec = Jvm.exec) (hb : c.code = cc) (hml : c.maxLocals = ls.size) (hown : s.vm.findClass own = some m.cls) (hk : tk s) (hK : va_K D vwCl tys s) (K : kN own host ix y bytes maxL ret np) (hM : pMet l y bytes maxL ret rm D tys (.ref b :: As) wc v)
    (hP : va_P D vwCl wc H) (hD : va_D (fun _ => True) wc) (he : wc[q0]? = some (b, .inr (ci, fs))) (hc : vwCl[ci]? = some (y.cls, T, N)) (hst : st0 = As.reverse ++ .ref b :: rest) (hav : As.length = np) (hrm : rm.cells = 0 ∧ rm.slots = 0) (hR : kR R rm maxL cells slots) (hcat : (rest.map fun v => v.category).sum ≤ 8) (hdg : decode cc pc = .ok (.invokevirtual ix, 3))
    (kk : W p l e R s m args below meth c H locs cells slots Q (F0 m (pc + 3) ls (v :: rest))) : W p l e R s m args below meth c H locs cells slots Q (F0 m pc ls st0) := by
  obtain ⟨k1, k2, k2', k3, k4, k5⟩ := K
  obtain ⟨r1, r2, r3, r4⟩ := hR
  rw [hrm.1] at r3
  rw [hrm.2] at r4
  exact p_run (a := (Value.ref b :: As).toArray) (va_runVN (host := host) (C := y.cls) (Ts := []) ⟨hx, hb, hml, hown, fun w h => by cases h⟩ hM ⟨⟨⟨hrm.1, hrm.2, r1, r2, k_ws hk k4, List.mem_cons_self⟩, hk _ k4 args, hk _ k3 args, ⟨k5.1, k5.2.1⟩, k_len k5, hk _ k1 args⟩, hk _ k2 args, hk _ k2' args⟩ ⟨cPre_blind, va_recv hK hP hc he, c_pre hk hK hP hD⟩ rfl hav rfl hst (lv_room hcat) hdg ⟨r3, r4⟩) kk
variable {A : Nat → Prop} {H0 : Heap} {W0 w1 : va_W} {ans : Option Value}
theorem w_subP {is : List Nat} (hP : va_P D vwCl W0 H) (hC : is.map (fun i => W0[i]?) = wc.map some) : va_P D vwCl wc H := hP.sub is (wcut hC)
theorem w_subD {is : List Nat} (hD : va_D A W0) (hC : is.map (fun i => W0[i]?) = wc.map some) (hn : va_nd is = true) : va_D (fun _ => True) wc := (hD.sub is hn hC).weaken (fun _ _ _ _ => trivial)
theorem m_callV {b : Addr} {ci q0 : Nat} {fs : List Value} {T : u_T} {N : Nat} (hx : p.tables.exec = Jvm.exec) (hb : c.code = cc) (hml : c.maxLocals = ls.size) (hown : s.vm.findClass own = some m.cls) (hk : tk s) (hK : va_K D vwCl tys s) (K : kV own ix y bytes maxL ret np) (hM : mMet l y bytes maxL ret rm D tys (.ref b :: As) wc ans w1)
    (hP : va_P D vwCl W0 H) (hD : va_D A W0) (hS : va_S A H0 H locs) (is : List Nat) (hC : is.map (fun i => W0[i]?) = wc.map some) (hn : va_nd is = true) (hf : w1.map Prod.fst = wc.map Prod.fst) (he : wc[q0]? = some (b, .inr (ci, fs))) (hc : vwCl[ci]? = some (y.cls, T, N)) (hst : st0 = As.reverse ++ .ref b :: rest) (hav : As.length = np) (hrm : rm.cells = 0 ∧ rm.slots = 0) (hR : kR R rm maxL cells slots) (hcat : (rest.map fun v => v.category).sum ≤ 8) (hdg : decode cc pc = .ok (.invokevirtual ix, 3))
    (kk : ∀ (H1 : Heap) (locs1 : List Loc), va_P D vwCl (wset W0 is w1) H1 → va_D A (wset W0 is w1) → va_S A H0 H1 locs1 → W p l e R s m args below meth c H1 locs1 cells slots Q (F0 m (pc + 3) ls (ans.toList ++ rest))) : W p l e R s m args below meth c H locs cells slots Q (F0 m pc ls st0) := by
  obtain ⟨k1, k2, k2', k3, k4, k5⟩ := K
  obtain ⟨r1, r2, r3, r4⟩ := hR
  rw [hrm.1] at r3
  rw [hrm.2] at r4
  have hPc := w_subP hP hC
  have hDc := w_subD hD hC hn
  exact m_run (a := (Value.ref b :: As).toArray) (va_runV (C := y.cls) (Ts := []) ⟨hx, hb, hml, hown, fun w h => by cases h⟩ hM ⟨⟨hrm.1, hrm.2, r1, r2, k_ws hk k4, List.mem_cons_self, hk _ k4 args, hk _ k3 args, ⟨k5.1, k5.2.1⟩, k_len k5, hk _ k1 args⟩, hk _ k2 args, hk _ k2' args⟩ ⟨cPre_blind, va_recv hK hPc hc he, c_pre hk hK hPc hDc⟩ rfl hav rfl hst (lv_room hcat) hdg ⟨r3, r4⟩) hP hD hS is hC hf kk
theorem m_callN {b : Addr} {ci q0 : Nat} {fs : List Value} {T : u_T} {N : Nat} (hx : p.tables.exec = Jvm.exec) (hb : c.code = cc) (hml : c.maxLocals = ls.size) (hown : s.vm.findClass own = some m.cls) (hk : tk s) (hK : va_K D vwCl tys s) (K : kN own host ix y bytes maxL ret np) (hM : mMet l y bytes maxL ret rm D tys (.ref b :: As) wc ans w1)
    (hP : va_P D vwCl W0 H) (hD : va_D A W0) (hS : va_S A H0 H locs) (is : List Nat) (hC : is.map (fun i => W0[i]?) = wc.map some) (hn : va_nd is = true) (hf : w1.map Prod.fst = wc.map Prod.fst) (he : wc[q0]? = some (b, .inr (ci, fs))) (hc : vwCl[ci]? = some (y.cls, T, N)) (hst : st0 = As.reverse ++ .ref b :: rest) (hav : As.length = np) (hrm : rm.cells = 0 ∧ rm.slots = 0) (hR : kR R rm maxL cells slots) (hcat : (rest.map fun v => v.category).sum ≤ 8) (hdg : decode cc pc = .ok (.invokevirtual ix, 3))
    (kk : ∀ (H1 : Heap) (locs1 : List Loc), va_P D vwCl (wset W0 is w1) H1 → va_D A (wset W0 is w1) → va_S A H0 H1 locs1 → W p l e R s m args below meth c H1 locs1 cells slots Q (F0 m (pc + 3) ls (ans.toList ++ rest))) : W p l e R s m args below meth c H locs cells slots Q (F0 m pc ls st0) := by
  obtain ⟨k1, k2, k2', k3, k4, k5⟩ := K
  obtain ⟨r1, r2, r3, r4⟩ := hR
  rw [hrm.1] at r3
  rw [hrm.2] at r4
  have hPc := w_subP hP hC
  have hDc := w_subD hD hC hn
  exact m_run (a := (Value.ref b :: As).toArray) (va_runVN (host := host) (C := y.cls) (Ts := []) ⟨hx, hb, hml, hown, fun w h => by cases h⟩ hM ⟨⟨⟨hrm.1, hrm.2, r1, r2, k_ws hk k4, List.mem_cons_self⟩, hk _ k4 args, hk _ k3 args, ⟨k5.1, k5.2.1⟩, k_len k5, hk _ k1 args⟩, hk _ k2 args, hk _ k2' args⟩ ⟨cPre_blind, va_recv hK hPc hc he, c_pre hk hK hPc hDc⟩ rfl hav rfl hst (lv_room hcat) hdg ⟨r3, r4⟩) hP hD hS is hC hf kk
end KC
/-- calls that may throw: what comes of them -/
def xOut (g : JFrame) (rest : List Value) (T' : State) : Outcome → State
  | .returned v => T'.setTop { g with pc := g.pc + 3, stack := v.toList ++ rest }
  | .threw x => (T'.setTop { g with stack := rest }).pushFrame (.throwing x)
theorem x_heap (T : State) (g : JFrame) : (T.setTop g).heap = T.heap := by simp [State.setTop, State.modifyTopJava]
theorem x_vm (T : State) (g : JFrame) : (T.setTop g).vm = T.vm := by simp [State.setTop, State.modifyTopJava]
theorem xPre_blind {D : va_G} {tys : List (ClassId × FieldType)} {aS : Nat} {av : List Value} {wc : va_W} : FrameBlind (xPre D tys aS av wc) := by
  intro a U g mk h
  obtain ⟨h0, h1, h2, h3, h4, h5⟩ := h
  exact ⟨h0, tk_warm (s := U) (U := U.calling g mk a) (State.WarmedH.refl U) h1, va_K.moved (u := U) (U := U.calling g mk a) (Vm.Alike.refl U.vm) h2, h3, h4, xS.moved (u := U) (U := U.calling g mk a) (Vm.Alike.refl U.vm) h5⟩
section XC
variable {p : Program} {l : Launch} {e : Env} {R : Room} {s : State} {m : MethodId} {args : Array Value} {below : List Frame} {meth : Method} {c : Code} {H : Heap} {locs : List Loc} {cells slots : Nat} {Q : State → Prop}
variable {cc bytes : ByteArray} {pc maxL np ix aS : Nat} {ls : Array Slot} {rest st0 av As : List Value} {own host : String} {y : MethodName} {ret : Option FieldType} {rm : Room} {D : va_G} {tys : List (ClassId × FieldType)} {wc wcC w1 w1C W0 : va_W} {v : Value} {res : Option (Option Value)} {X : String}
theorem xInto {T : State} (X0 : Stand p l e R s m args below meth c T locs cells slots) (hM : xMet l y bytes maxL ret rm D tys aS av wc res X w1) {g : JFrame} {ig : Instr} (hg : g.method = m) (hsize : g.locals.size = c.maxLocals) (hdg : decode c.code g.pc = .ok (ig, 3))
    {mk : MethodId} (hn : T.methodNamed? y = some mk) (hk : tk T) (hc : Cond.code y bytes maxL ret ∈ tbg) (hi : Cond.initialized y.cls ∈ tbg) (hcat : 2 * g.monitorRoom + (g.stack.map fun v => v.category).sum ≤ 8) (hR : kR R rm maxL cells slots) (hpre : xPre D tys aS av wc av.toArray T) :
    ∃ (o : Outcome) (t T' : State) (L : List Loc) (k n : Nat), Stand p l e R s m args below meth c T' (locs ++ L) (cells + k) (slots + n) ∧ xCnt o k n ∧ (∀ q ∈ L, wA wc q.base) ∧ T'.heap = t.heap ∧ T'.vm = t.vm ∧ xQ D wc res X w1 av.toArray (T.calling g mk av.toArray) o t ∧
      Steps p.tables e below (doInvoke e (T.setTop g) [] mk av.toArray).1 (xOut g g.stack T' o) := by
  obtain ⟨r1, r2, r3, r4⟩ := hR
  obtain ⟨methY, cY, hmY, hcY, -, hlY, -, -, -, -⟩ := Cond.code_spec hn (hk _ hc #[])
  obtain ⟨kY, hkY, -⟩ := className_of_methodNamed hn
  have hinitY : kY.init = .initialized := Cond.initialized_spec (findClass_of_methodNamed hn) hkY (hk _ hi #[])
  have h : At T g.method c below := by rw [hg]; exact X0.here
  have happ : (headSpec [Cond.code y bytes maxL ret] rm).appliesLoose y e.platform (T.calling g mk av.toArray) = true :=
    Spec.appliesLoose_calling (g := g) h hdg hn hkY hinitY (X0.room_calling (g := g) (R' := rm) hsize hmY hcY r1 (by rw [hlY]; omega) r3 r4) (atoms_intro (fun w hw => by rw [List.mem_singleton] at hw; subst hw; exact hk _ hc _))
  obtain ⟨mid, hmid⟩ := h.above
  have hfr : (T.setTop g).frames = (.java g :: mid) ++ below := by rw [State.frames_setTop' g h.top, hmid]; rfl
  obtain ⟨o, s₂, hsteps, -, hend, hq, L, k, n, hW, hs, hcnt, hL⟩ := Steps.callFree hM p X0.admits X0.cas X0.clock (acts := []) hfr happ (xPre_blind _ T g mk hpre) trivial
  rw [State.frames_setTop' g h.top, X0.tail] at hend
  cases o with
  | returned v =>
    obtain ⟨T', X', -, -, ht⟩ := X0.outOf hg hdg hend hW hs
    exact ⟨.returned v, s₂, T', L, k, n, X', hcnt, hL, by rw [ht, x_heap], by rw [ht, x_vm], hq, by rw [ht] at hsteps; exact hsteps⟩
  | threw x =>
    obtain ⟨T', X', -, -, ht⟩ := X0.outOfThrown hg hend hW hs
    exact ⟨.threw x, s₂, T', L, k, n, X', hcnt, hL, by rw [ht, Stand.throwing_heap], by rw [ht, Stand.throwing_vm], hq, by rw [ht] at hsteps; exact hsteps⟩
def xRun (p : Program) (l : Launch) (e : Env) (R : Room) (s : State) (m : MethodId) (args : Array Value) (below : List Frame) (meth : Method) (c : Code) (H : Heap) (locs : List Loc) (cells slots : Nat) (g : JFrame) (rest : List Value) (Qa : State → Outcome → State → Prop) (wc : va_W) : Prop :=
  ∀ T : State, T.heap = H → Stand p l e R s m args below meth c T locs cells slots → ∃ (o : Outcome) (st₀ t T' : State) (L : List Loc) (k n : Nat), st₀.heap = H ∧ Stand p l e R s m args below meth c T' (locs ++ L) (cells + k) (slots + n) ∧ xCnt o k n ∧ (∀ q ∈ L, wA wc q.base) ∧ T'.heap = t.heap ∧ T'.vm = t.vm ∧ Qa st₀ o t ∧
    ∀ target, Steps p.tables e below (xOut g rest T' o) target → Steps p.tables e below (T.setTop g) target
theorem x_pre (hk : tk s) (hK : va_K D vwCl tys s) (hP : va_P D vwCl wc H) (hD : va_D (fun q => q ≠ aS) wc) (hZ : xS aS s H) : ∀ U : State, U.heap = H → s.WarmedH U.vm → xPre D tys aS av wc av.toArray U :=
  fun U hU hW => ⟨rfl, tk_warm hW hk, va_K.moved hW.alike hK, by rw [hU]; exact hP, hD, by rw [hU]; exact hZ.moved hW.alike⟩
theorem x_runS (hx : p.tables.exec = Jvm.exec) (hb : c.code = cc) (hml : c.maxLocals = ls.size) (hown : s.vm.findClass own = some m.cls) (hk : tk s) (hK : va_K D vwCl tys s) (K : kS own ix y bytes maxL ret np) (hM : xMet l y bytes maxL ret rm D tys aS av wc res X w1)
    (hP : va_P D vwCl wc H) (hD : va_D (fun q => q ≠ aS) wc) (hZ : xS aS s H) (hst : st0 = av.reverse ++ rest) (hav : av.length = np) (hR : kR R rm maxL cells slots) (hcat : (rest.map fun v => v.category).sum ≤ 8) (hdg : decode cc pc = .ok (.invokestatic ix, 3)) :
    xRun p l e R s m args below meth c H locs cells slots (F0 m pc ls st0) rest (xQ D wc res X w1 av.toArray) wc := by
  obtain ⟨k1, k2, k3, k4, k5⟩ := K
  intro T hT X0
  subst hb
  obtain ⟨mk, hnamed⟩ := Cond.code_named (hk _ k4 args)
  obtain ⟨methM, cM, hmethM, -, -, -, -, -, -, hsigM⟩ := Cond.code_spec hnamed (hk _ k4 args)
  have hstatic : methM.isStatic = true := Cond.static_spec hnamed hmethM (hk _ k2 args)
  obtain ⟨kP, hkP, -⟩ := className_of_methodNamed hnamed
  have hinitP : kP.init = .initialized := Cond.initialized_spec (findClass_of_methodNamed hnamed) hkP (hk _ k3 args)
  obtain ⟨vm₁, X₁, hstep₁⟩ := X0.invokestatic hx hown (hk _ k1 args) hnamed hmethM hstatic hkP hinitP ⟨k5.1, k5.2.1⟩ (g := F0 m pc ls st0) rfl (argsL := av) (rest := rest) (hav.trans (k_len k5 _ hsigM)) hst hdg
  obtain ⟨o, t, T', L, k, n, X', h1, h2, h3, h4, h5, h6⟩ := xInto X₁ hM (g := F0 m pc ls rest) rfl hml.symm hdg (X₁.named hnamed) (tk_warm X₁.warmed hk) k4 k3 (lv_room hcat) hR (x_pre hk hK hP hD hZ _ hT X₁.warmed)
  exact ⟨o, _, t, T', L, k, n, hT, X', h1, h2, h3, h4, h5, fun target h => hstep₁ _ fun acts => by rw [doInvoke_state]; exact h6.trans h⟩
theorem x_runV {b : Addr} {ci q0 : Nat} {fs : List Value} {TT : u_T} {N : Nat} (hx : p.tables.exec = Jvm.exec) (hb : c.code = cc) (hml : c.maxLocals = ls.size) (hown : s.vm.findClass own = some m.cls) (hk : tk s) (hK : va_K D vwCl tys s) (K : kV own ix y bytes maxL ret np) (hM : xMet l y bytes maxL ret rm D tys aS (.ref b :: As) wc res X w1)
    (hP : va_P D vwCl wc H) (hD : va_D (fun q => q ≠ aS) wc) (hZ : xS aS s H) (he : wc[q0]? = some (b, .inr (ci, fs))) (hc : vwCl[ci]? = some (y.cls, TT, N)) (hst : st0 = As.reverse ++ .ref b :: rest) (hav : As.length = np) (hR : kR R rm maxL cells slots) (hcat : (rest.map fun v => v.category).sum ≤ 8) (hdg : decode cc pc = .ok (.invokevirtual ix, 3)) :
    xRun p l e R s m args below meth c H locs cells slots (F0 m pc ls st0) rest (xQ D wc res X w1 (Value.ref b :: As).toArray) wc := by
  obtain ⟨k1, k2, k2', k3, k4, k5⟩ := K
  intro T hT X0
  subst hb
  obtain ⟨mk, methM, hnamed, hmethM, hstM, habM⟩ := Cond.instanceMethod_spec (hk _ k2 args)
  obtain ⟨methM', cM, hmethM', -, -, -, -, -, -, hsigM⟩ := Cond.code_spec hnamed (hk _ k4 args)
  cases hmethM.symm.trans hmethM'
  obtain ⟨c2, r2, m2, q1, q2, q3, q4, kP, hkP, hkPi⟩ := Cond.selects_spec (hk _ k2' args)
  obtain ⟨cellB, hcB, hoB, hclB⟩ := va_recv hK hP hc he
  cases hclB.symm.trans q1
  cases (State.methodFound?_of_named hnamed ⟨k5.1, k5.2.1⟩).symm.trans q2
  cases hnamed.symm.trans q3
  have hselP : selectMethod e.platform s.vm cellB.cls mk = .method mk := by rw [Launch.admits_selectMethod X0.admits]; exact q4
  obtain ⟨vm₁, X₁, hstep₁⟩ := X0.invokevirtual hx hown (hk _ k1 args) hnamed hmethM hstM hkP hkPi ⟨k5.1, k5.2.1⟩ (a := b) (cell := cellB) (by rw [hT]; exact hcB)
    (fun z h => by rw [h] at hoB; cases hoB) hselP hmethM habM hkP hkPi (g := F0 m pc ls st0) rfl (argsL := As) (rest := rest) (hav.trans (k_len k5 _ hsigM)) hst hdg
  obtain ⟨o, t, T', L, k, n, X', h1, h2, h3, h4, h5, h6⟩ := xInto X₁ hM (g := F0 m pc ls rest) rfl hml.symm hdg (X₁.named hnamed) (tk_warm X₁.warmed hk) k4 k3 (lv_room hcat) hR (x_pre hk hK hP hD hZ _ hT X₁.warmed)
  exact ⟨o, _, t, T', L, k, n, hT, X', h1, h2, h3, h4, h5, fun target h => hstep₁ _ fun acts => by rw [doInvoke_state]; exact h6.trans h⟩
variable {A : Nat → Prop} {H0 : Heap} {a : Array Value} {ans : Option Value}
/-- it came back -/
theorem x_ok (hr : xRun p l e R s m args below meth c H locs cells slots (F0 m pc ls st0) rest (xQ D wcC (some ans) X w1C a) wcC) (hP : va_P D vwCl W0 H) (hD : va_D A W0) (hS : va_S A H0 H locs)
    (is : List Nat) (hC : is.map (fun i => W0[i]?) = wcC.map some) (hf : w1C.map Prod.fst = wcC.map Prod.fst)
    (kk : ∀ (H1 : Heap) (locs1 : List Loc), va_P D vwCl (wset W0 is w1C) H1 → va_D A (wset W0 is w1C) → va_S A H0 H1 locs1 → W p l e R s m args below meth c H1 locs1 cells slots Q (F0 m (pc + 3) ls (ans.toList ++ rest))) : W p l e R s m args below meth c H locs cells slots Q (F0 m pc ls st0) := by
  intro T hT X0
  obtain ⟨o, st₀, t, T', L, k, n, h0, X', hcnt, hL, e1, e2, ⟨hp, ⟨hz, hk⟩, ho⟩, st⟩ := hr T hT X0
  cases ho
  obtain ⟨rfl, rfl⟩ := hcnt
  rw [h0] at hz hk
  have hA : ∀ q, wA wcC q → A q := by
    rintro q ⟨k, ee, h⟩
    obtain ⟨i, -, g⟩ := wat hC k (q, ee) h
    exact hD.2 i (q, ee) g
  obtain ⟨j1, j2⟩ := wjoin hP hD hC hf hk hp
  obtain ⟨t2, a1, b1⟩ := kk T'.heap (locs ++ L) (by rw [e1]; exact j1) j2
    ⟨Nat.le_trans hS.1 (by rw [e1]; exact hz), fun q h1 h2 => by rw [e1, hk q (Nat.lt_of_lt_of_le h1 hS.1) (fun z => h2 (hA q z))]; exact hS.2.1 q h1 h2, fun q hq => by
      rcases List.mem_append.mp hq with h | h
      · exact hS.2.2 q h
      · exact hA _ (hL q h)⟩ T' rfl X'
  exact ⟨t2, st t2 a1, b1⟩
/-- it threw, and nothing here catches it -/
theorem x_thr (hr : xRun p l e R s m args below meth c H locs 0 0 (F0 m pc ls st0) rest (xQ D wcC none X w1C a) wcC) (hE : c.exceptionTable.isEmpty = true) (hlk : meth.locks = false) (hP : va_P D vwCl W0 H) (hD : va_D (wA wc) W0) (hS : va_S (wA wc) s.heap H locs)
    (is : List Nat) (hC : is.map (fun i => W0[i]?) = wcC.map some) (hf : w1C.map Prod.fst = wcC.map Prod.fst) (h : wset W0 is w1C = w1) (hres : res = none) :
    W p l e R s m args below meth c H locs 0 0 (xMQ below (xQ D wc res X w1) args s wc) (F0 m pc ls st0) := by
  subst h; subst hres
  intro T hT X0
  obtain ⟨o, st₀, t, T', L, k, n, h0, X', hcnt, hL, e1, e2, ⟨hp, ⟨hz, hk⟩, ⟨x, rfl, hx, ce, c1, c2, c3⟩⟩, st⟩ := hr T hT X0
  obtain ⟨rfl, rfl⟩ := hcnt
  rw [h0] at hz hk hx
  have hA : ∀ q, wA wcC q → wA wc q := by
    rintro q ⟨k, ee, h⟩
    obtain ⟨i, -, g⟩ := wat hC k (q, ee) h
    exact hD.2 i (q, ee) g
  obtain ⟨j1, j2⟩ := wjoin hP hD hC hf hk hp
  obtain ⟨hwalk, hrun, hended, hWU, hsame⟩ := X'.leaveThrown x (g := F0 m pc ls rest) rfl rfl rfl (fun z hz => by rw [Array.isEmpty_iff] at hE; rw [hE] at hz; cases hz) hlk
  refine ⟨_, st _ hwalk, .threw x, hrun, hended, ⟨?_, ⟨?_, fun q h1 h2 => ?_⟩, x, rfl, Nat.le_trans hS.1 hx, ce, ?_, c2, ?_⟩, locs ++ L, 1, 6, hWU, hsame, ⟨rfl, rfl⟩, fun q hq => ?_⟩
  · show va_P D vwCl (wset W0 is w1C) T'.heap
    rw [e1]; exact j1
  · show s.heap.size ≤ T'.heap.size
    rw [e1]; exact Nat.le_trans hS.1 hz
  · show T'.heap[q]? = s.heap[q]?
    rw [e1, hk q (Nat.lt_of_lt_of_le h1 hS.1) (fun z => h2 (hA q z))]
    exact hS.2.1 q h1 h2
  · show T'.heap[x]? = some ce
    rw [e1]; exact c1
  · show T'.vm.findClass X = some ce.cls
    rw [e2]; exact c3
  · rcases List.mem_append.mp hq with h | h
    · exact hS.2.2 q h
    · exact hA _ (hL q h)
end XC
