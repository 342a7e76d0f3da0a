/-! Methods with a table of handlers: their contracts, the catching, calls of them. -/
def sIAE : String := "java/lang/IllegalArgumentException"
def sUOE : String := "java/lang/UnsupportedOperationException"
def sNSE : String := "java/util/NoSuchElementException"
def tNc (U : State) : Prop := va_Nc sUOE sIAE U ∧ va_Nc sNSE sIAE U
def tPre (D : va_G) (tys : List (ClassId × FieldType)) (aS : Nat) (av : List Value) (wc : va_W) : Array Value → State → Prop :=
  va_Pc av (fun U => tk U ∧ va_K D vwCl tys U ∧ va_P D vwCl wc U.heap ∧ va_D (fun q => q ≠ aS) wc ∧ xS aS U U.heap ∧ tNc U)
def tQ (D : va_G) (wc : va_W) (ans : Option Value) (Pw : va_W → Prop) : Array Value → State → Outcome → State → Prop := fun _ st o t =>
  o = .returned ans ∧ (∃ w1 : va_W, Pw w1 ∧ w1.map Prod.fst = wc.map Prod.fst ∧ va_P D vwCl w1 t.heap) ∧ va_F (wA wc) st t
def tMet (l : Launch) (y : MethodName) (cc : ByteArray) (n : Nat) (r : Option FieldType) (hh : List (Nat × Nat × Nat × Nat)) (rm : Room) (D : va_G) (tys : List (ClassId × FieldType)) (aS : Nat) (av : List Value) (wc : va_W) (ans : Option Value) (Pw : va_W → Prop) (kc kn : Nat) : Prop :=
  MetFree l y (headSpec [Cond.codeWith y cc n r hh] rm) (tPre D tys aS av wc) (fun _ _ _ _ _ => True) (fun a st o t => tQ D wc ans Pw a st o t ∧ ∃ L, FrameEnd st o t L kc kn ∧ ∀ q ∈ L, wA wc q.base)
theorem tPre_blind {D : va_G} {tys : List (ClassId × FieldType)} {aS : Nat} {av : List Value} {wc : va_W} : FrameBlind (tPre D tys aS av wc) := by
  intro a U g mk h
  obtain ⟨h0, h1, h2, h3, h4, h5, h6, h7⟩ := h
  exact ⟨h0, tk_warm (s := U) (U := U.calling g mk a) (State.WarmedH.refl U) h1, va_K.moved (u := U) (U := U.calling g mk a) (Vm.Alike.refl U.vm) h2, h3, h4, xS.moved (u := U) (U := U.calling g mk a) (Vm.Alike.refl U.vm) h5, va_Nc.moved (u := U) (U := U.calling g mk a) (Vm.Alike.refl U.vm) h6, va_Nc.moved (u := U) (U := U.calling g mk a) (Vm.Alike.refl U.vm) h7⟩
theorem tMet_of {l : Launch} {y : MethodName} {cc : ByteArray} {n : Nat} {r : Option FieldType} {hh : List (Nat × Nat × Nat × Nat)} {rm : Room} {D : va_G} {tys : List (ClassId × FieldType)} {aS : Nat} {av : List Value} {wc : va_W} {ans : Option Value} {Pw : va_W → Prop} {kc kn : Nat} (hy : plainName y.cls = true) (hn : (lg_sl av).length ≤ n)
    (body : ∀ p e s m below meth c, p.tables.exec = Jvm.exec → c.code = cc → meth.sig.returnType = r → s.vm.findClass y.cls = some m.cls → meth.locks = false → c.maxLocals = n → c.exceptionTable.toList = tableOf hh → tk s → va_K D vwCl tys s → va_P D vwCl wc s.heap → va_D (wA wc) wc → va_S (wA wc) s.heap s.heap [] → (∀ q, wA wc q → q ≠ aS) → xS aS s s.heap → tNc s →
      ∀ ls : Array Slot, lv_has ls n (lv_args 0 av) → W p l e rm s m av.toArray below meth c s.heap [] 0 0 (MQ below (tQ D wc ans Pw) av.toArray s kc kn (wA wc)) (F0 m 0 ls [])) : tMet l y cc n r hh rm D tys aS av wc ans Pw kc kn := by
  refine MetFree.of_bodyS (code := cc) (maxLocals := n) (ret := r) hy ?_ ?_
  · intro args s m h hn
    obtain ⟨m9, meth, c, hn9, h1, h2, h3, h4, -, h5, h6, -⟩ := Cond.codeWith_spec (atoms_spec (ws := [Cond.codeWith y cc n r hh]) h _ List.mem_cons_self)
    cases hn.symm.trans hn9
    exact ⟨meth, c, h1, h2, h3, h4, h5, h6⟩
  · intro p e s m args below meth c s₁ B hml hv _
    obtain ⟨rfl, h1, h2, h3, h4, h5, h6⟩ := hv
    have hh0 : s₁.heap = s.heap := by rw [B.state]; rfl
    have hl := lv_entry av (n := n) hn
    have hE : c.exceptionTable.toList = tableOf hh := by
      obtain ⟨m9, meth9, c9, hn9, g1, g2, -, -, g6, -⟩ := Cond.codeWith_spec (atoms_spec (ws := [Cond.codeWith y cc n r hh]) B.pre _ List.mem_cons_self)
      cases Option.some.inj (hn9.symm.trans B.named)
      cases Option.some.inj (g1.symm.trans B.method)
      cases Option.some.inj (g2.symm.trans (Stand.of_body B).code)
      rw [← g6, table_eq]
    have K := body p e s m below meth c B.exec B.bytes B.returns (findClass_of_methodNamed B.named) B.notSynchronized hml hE h1 h2 h3 ⟨h4.1, fun k q hk => ⟨k, q.2, hk⟩⟩ va_S.rf (fun q hq => by obtain ⟨k, ee, hk⟩ := hq; exact h4.2 k (q, ee) hk) h5 h6 _ hl
    rw [← lg_entry_eq] at K
    obtain ⟨t, a1, o, b1, b2, b3⟩ := K s₁ hh0 (Stand.of_body B)
    exact ⟨t, o, a1, b1, b2, ⟨b3.1, b3.2⟩⟩
/-- the words of a call of a method with handlers -/
def tS (own : String) (ix : Nat) (y : MethodName) (cc : ByteArray) (n : Nat) (r : Option FieldType) (hh : List (Nat × Nat × Nat × Nat)) (np : Nat) : Prop :=
  Cond.methodLink own ix y ∈ tbg ∧ Cond.static y ∈ tbg ∧ Cond.initialized y.cls ∈ tbg ∧ Cond.codeWith y cc n r hh ∈ tbg ∧ kBase y np
def tV (own : String) (ix : Nat) (y : MethodName) (cc : ByteArray) (n : Nat) (r : Option FieldType) (hh : List (Nat × Nat × Nat × Nat)) (np : Nat) : Prop :=
  Cond.methodLink own ix y ∈ tbg ∧ Cond.instanceMethod y ∈ tbg ∧ Cond.selects y.cls y y ∈ tbg ∧ Cond.initialized y.cls ∈ tbg ∧ Cond.codeWith y cc n r hh ∈ tbg ∧ kBase y np
section TC
variable {p : Program} {l : Launch} {e : Env} {R : Room} {s : State} {m : MethodId} {args : Array Value} {below : List Frame} {meth : Method} {c : Code} {H : Heap} {locs : List Loc} {cells slots : Nat} {Q : State → Prop}
variable {cc bytes : ByteArray} {pc maxL np ix aS kc kn : Nat} {ls : Array Slot} {rest st0 av As : List Value} {own : String} {y : MethodName} {ret : Option FieldType} {hh : List (Nat × Nat × Nat × Nat)} {rm : Room} {D : va_G} {tys : List (ClassId × FieldType)} {w wc wcC W0 : va_W} {X : String} {Pw : va_W → Prop} {ans : Option Value}
theorem t_vret (hx : p.tables.exec = Jvm.exec) (hb : c.code = cc) (hr : meth.sig.returnType = none) (hlk : meth.locks = false) (hP : va_P D vwCl w H) (hS : va_S (wA wc) s.heap H locs) (hdg : decode cc pc = .ok (.return_, 1)) (h : Pw w) (hf : w.map Prod.fst = wc.map Prod.fst) (h1 : cells = kc) (h2 : slots = kn) :
    W p l e R s m args below meth c H locs cells slots (MQ below (tQ D wc none Pw) args s kc kn (wA wc)) (F0 m pc ls []) := by
  subst h1; subst h2
  exact W.vret hx hb hr (fun t ht _ => ⟨rfl, ⟨w, h, hf, by rw [ht]; exact hP⟩, hS.F ht⟩) hS.2.2 hdg hlk
theorem t_iret {z : Int} (hx : p.tables.exec = Jvm.exec) (hb : c.code = cc) (hr : meth.sig.returnType = some .int) (hlk : meth.locks = false) (hP : va_P D vwCl w H) (hS : va_S (wA wc) s.heap H locs) (hdg : decode cc pc = .ok (.ireturn, 1)) (h : Pw w) (hf : w.map Prod.fst = wc.map Prod.fst) (h1 : cells = kc) (h2 : slots = kn) :
    W p l e R s m args below meth c H locs cells slots (MQ below (tQ D wc (some (.int (iI z))) Pw) args s kc kn (wA wc)) (F0 m pc ls [.int (iI z)]) := by
  subst h1; subst h2
  exact W.iret hx hb hr (fun t ht _ => ⟨rfl, ⟨w, h, hf, by rw [ht]; exact hP⟩, hS.F ht⟩) hS.2.2 hdg hlk
variable {A : Nat → Prop} {H0 : Heap} {a : Array Value} {Pc : va_W → Prop}
/-- it threw, and a handler here catches it -/
theorem t_catch (hr : xRun p l e R s m args below meth c H locs cells slots (F0 m pc ls st0) rest (xQE D wcC Pc X a) wcC) (hown : s.vm.findClass own = some m.cls) (hk : tk s)
    (pre : List ExceptionTableEntry) (x : ExceptionTableEntry) (suf : List ExceptionTableEntry) (hsplit : c.exceptionTable.toList = pre ++ x :: suf)
    (hpass : ∀ z ∈ pre, covers z pc = false ∨ (z.catchType ≠ 0 ∧ ∃ nm : String, Cond.classLink own z.catchType nm ∈ tbg ∧ va_Nc X nm s)) (hx : covers x pc = true) (h0 : x.catchType ≠ 0)
    (hlink : Cond.classLink own x.catchType X ∈ tbg) (hcast : Cond.castable X X ∈ tbg) (hP : va_P D vwCl W0 H) (hD : va_D A W0) (hS : va_S A H0 H locs)
    (is : List Nat) (hC : is.map (fun i => W0[i]?) = wcC.map some)
    (kk : ∀ (w1 : va_W) (H1 : Heap) (locs1 : List Loc) (q : Nat), Pc w1 → va_P D vwCl (wset W0 is w1) H1 → va_D A (wset W0 is w1) → va_S A H0 H1 locs1 → W p l e R s m args below meth c H1 locs1 (cells + 1) (slots + 6) Q (F0 m x.handlerPc ls [.ref q])) : W p l e R s m args below meth c H locs cells slots Q (F0 m pc ls st0) := by
  intro T hT X0
  obtain ⟨o, st₀, t, T', L, k, n, hh0, X', hcnt, hL, e1, e2, ⟨w1, hpc, hf, hp, ⟨hz, hkk⟩, ⟨q, rfl, hq, ce, c1, c2, c3⟩⟩, st⟩ := hr T hT X0
  obtain ⟨rfl, rfl⟩ := hcnt
  rw [hh0] at hz hkk hq
  have hA : ∀ q, wA wcC q → A q := by
    rintro q ⟨k, ee, h⟩
    obtain ⟨i, -, g⟩ := wat hC k (q, ee) h
    exact hD.2 i (q, ee) g
  obtain ⟨j1, j2⟩ := wjoin hP hD hC hf hkk hp
  have hcl : s.vm.findClass X = some ce.cls := by
    rw [← X'.warmed.alike.findClass, e2]; exact c3
  have hpl : e.platform.magicAccessors = ({} : Platform).magicAccessors := by rw [X'.admits.platform]
  obtain ⟨c3', c4, hc3, hc4, hasg⟩ := Cond.castable_spec (hk _ hcast args)
  cases Option.some.inj (hc3.symm.trans hcl)
  obtain ⟨c5, hc5, hcl5⟩ := Cond.classLink_spec hown (hk _ hlink args) e.platform hpl
  cases Option.some.inj (hc4.symm.trans hc5)
  obtain ⟨vm', X9, st9⟩ := X'.thenCaughtThrough q (g := F0 m pc ls rest) rfl (Steps.refl _) (cell := ce) (by rw [e1]; exact c1) (by rw [c2]; rfl) (by obtain ⟨k9, h9, -⟩ := Vm.findClass_spec hcl; exact ⟨k9, h9⟩) pre x suf hsplit
    (fun z hz => by
      rcases hpass z hz with h | ⟨hz0, nm, hl1, hn1⟩
      · exact Or.inl h
      · obtain ⟨c6, hc6, hcl6⟩ := Cond.classLink_spec hown (hk _ hl1 args) e.platform hpl
        obtain ⟨a8, b8, h1, h2, h3⟩ := hn1
        cases Option.some.inj (h1.symm.trans hcl)
        cases Option.some.inj (h2.symm.trans hc6)
        exact Or.inr ⟨hz0, _, hcl6, h3⟩) hx (Or.inr ⟨h0, c4, hcl5, hasg⟩)
  obtain ⟨t2, a1, b1⟩ := kk w1 T'.heap (locs ++ L) q hpc (by rw [e1]; exact j1) j2
    ⟨Nat.le_trans hS.1 (by rw [e1]; exact hz), fun q h1 h2 => by rw [e1, hkk q (Nat.lt_of_lt_of_le h1 hS.1) (fun z => h2 (hA q z))]; exact hS.2.1 q h1 h2, fun q hq => by
      rcases List.mem_append.mp hq with h | h
      · exact hS.2.2 q h
      · exact hA _ (hL q h)⟩ (T'.setVm vm') rfl X9
  exact ⟨t2, st _ (st9.trans a1), b1⟩
theorem tInto {T : State} (X0 : Stand p l e R s m args below meth c T locs cells slots) (hM : tMet l y bytes maxL ret hh rm D tys aS av wc ans Pw kc kn) {g : JFrame} {ig : Instr} (hg : g.method = m) (hsize : g.locals.size = c.maxLocals) (hdg : decode c.code g.pc = .ok (ig, 3))
    {mk : MethodId} (hn : T.methodNamed? y = some mk) (hk : tk T) (hc : Cond.codeWith y bytes maxL ret hh ∈ tbg) (hi : Cond.initialized y.cls ∈ tbg) (hcat : 2 * g.monitorRoom + (g.stack.map fun v => v.category).sum ≤ 8) (hR : kR R rm maxL cells slots) (hpre : tPre D tys aS av wc av.toArray T) :
    ∃ (t T' : State) (L : List Loc) (w1 : va_W), Stand p l e R s m args below meth c T' (locs ++ L) (cells + kc) (slots + kn) ∧ (∀ q ∈ L, wA wc q.base) ∧ T'.heap = t.heap ∧ Pw w1 ∧ w1.map Prod.fst = wc.map Prod.fst ∧ va_P D vwCl w1 t.heap ∧ va_F (wA wc) (T.calling g mk av.toArray) t ∧
      Steps p.tables e below (doInvoke e (T.setTop g) [] mk av.toArray).1 (T'.setTop { g with pc := g.pc + 3, stack := ans.toList ++ g.stack }) := by
  obtain ⟨r1, r2, r3, r4⟩ := hR
  obtain ⟨m9, methY, cY, hn9, hmY, hcY, -, hlY, -⟩ := Cond.codeWith_spec (hk _ hc #[])
  cases Option.some.inj (hn9.symm.trans hn)
  obtain ⟨kY, hkY, -⟩ := className_of_methodNamed hn
  have hinitY : kY.init = .initialized := Cond.initialized_spec (findClass_of_methodNamed hn) hkY (hk _ hi #[])
  have h : At T g.method c below := by rw [hg]; exact X0.here
  have happ : (headSpec [Cond.codeWith y bytes maxL ret hh] rm).appliesLoose y e.platform (T.calling g mk av.toArray) = true :=
    Spec.appliesLoose_calling (g := g) h hdg hn hkY hinitY (X0.room_calling (g := g) (R' := rm) hsize hmY hcY r1 (by rw [hlY]; omega) r3 r4) (atoms_intro (fun w hw => by rw [List.mem_singleton] at hw; subst hw; exact hk _ hc _))
  obtain ⟨mid, hmid⟩ := h.above
  have hfr : (T.setTop g).frames = (.java g :: mid) ++ below := by rw [State.frames_setTop' g h.top, hmid]; rfl
  obtain ⟨o, s₂, hsteps, -, hend, ⟨rfl, ⟨w1, hpw, hff, hp⟩, hF⟩, L, ⟨-, hW, hs⟩, hL⟩ := Steps.callFree hM p X0.admits X0.cas X0.clock (acts := []) hfr happ (tPre_blind _ T g mk hpre) trivial
  rw [State.frames_setTop' g h.top, X0.tail] at hend
  obtain ⟨T', X', -, -, ht⟩ := X0.outOf hg hdg hend hW hs
  exact ⟨s₂, T', L, w1, X', hL, by rw [ht, x_heap], hpw, hff, hp, hF, by rw [ht] at hsteps; exact hsteps⟩
theorem t_pre (hk : tk s) (hK : va_K D vwCl tys s) (hP : va_P D vwCl wc H) (hD : va_D (fun q => q ≠ aS) wc) (hZ : xS aS s H) (hN : tNc s) : ∀ U : State, U.heap = H → s.WarmedH U.vm → tPre D tys aS av wc av.toArray U :=
  fun U hU hW => ⟨rfl, tk_warm hW hk, va_K.moved hW.alike hK, by rw [hU]; exact hP, hD, by rw [hU]; exact hZ.moved hW.alike, hN.1.moved hW.alike, hN.2.moved hW.alike⟩
/-- what comes of such a call -/
def tRun (p : Program) (l : Launch) (e : Env) (R : Room) (s : State) (m : MethodId) (args : Array Value) (below : List Frame) (meth : Method) (c : Code) (H : Heap) (locs : List Loc) (cells slots : Nat) (g : JFrame) (rest : List Value) (D : va_G) (wc : va_W) (ans : Option Value) (Pw : va_W → Prop) (kc kn : Nat) : Prop :=
  ∀ T : State, T.heap = H → Stand p l e R s m args below meth c T locs cells slots → ∃ (st₀ t T' : State) (L : List Loc) (w1 : va_W), st₀.heap = H ∧ Stand p l e R s m args below meth c T' (locs ++ L) (cells + kc) (slots + kn) ∧ (∀ q ∈ L, wA wc q.base) ∧ T'.heap = t.heap ∧ Pw w1 ∧ w1.map Prod.fst = wc.map Prod.fst ∧ va_P D vwCl w1 t.heap ∧ va_F (wA wc) st₀ t ∧
    ∀ target, Steps p.tables e below (T'.setTop { g with pc := g.pc + 3, stack := ans.toList ++ rest }) target → Steps p.tables e below (T.setTop g) target
theorem t_runS (hx : p.tables.exec = Jvm.exec) (hb : c.code = cc) (hml : c.maxLocals = ls.size) (hown : s.vm.findClass own = some m.cls) (hk : tk s) (hK : va_K D vwCl tys s) (K : tS own ix y bytes maxL ret hh np) (hM : tMet l y bytes maxL ret hh rm D tys aS av wc ans Pw kc kn)
    (hP : va_P D vwCl wc H) (hD : va_D (fun q => q ≠ aS) wc) (hZ : xS aS s H) (hN : tNc s) (hst : st0 = av.reverse ++ rest) (hav : av.length = np) (hR : kR R rm maxL cells slots) (hcat : (rest.map fun v => v.category).sum ≤ 8) (hdg : decode cc pc = .ok (.invokestatic ix, 3)) :
    tRun p l e R s m args below meth c H locs cells slots (F0 m pc ls st0) rest D wc ans Pw kc kn := by
  obtain ⟨k1, k2, k3, k4, k5⟩ := K
  intro T hT X0
  subst hb
  obtain ⟨mk, methM, cM, hnamed, hmethM, -, -, -, -, -, -, hsigM⟩ := Cond.codeWith_spec (hk _ k4 args)
  have hstatic : methM.isStatic = true := Cond.static_spec hnamed hmethM (hk _ k2 args)
  obtain ⟨kP, hkP, -⟩ := className_of_methodNamed hnamed
  have hinitP : kP.init = .initialized := Cond.initialized_spec (findClass_of_methodNamed hnamed) hkP (hk _ k3 args)
  obtain ⟨vm₁, X₁, hstep₁⟩ := X0.invokestatic hx hown (hk _ k1 args) hnamed hmethM hstatic hkP hinitP ⟨k5.1, k5.2.1⟩ (g := F0 m pc ls st0) rfl (argsL := av) (rest := rest) (hav.trans (k_len k5 _ hsigM)) hst hdg
  obtain ⟨t, T', L, w1, X', h1, h2, h3, h4, h5, h6, h7⟩ := tInto X₁ hM (g := F0 m pc ls rest) rfl hml.symm hdg (X₁.named hnamed) (tk_warm X₁.warmed hk) k4 k3 (lv_room hcat) hR (t_pre hk hK hP hD hZ hN _ hT X₁.warmed)
  exact ⟨(T.setVm vm₁).calling (F0 m pc ls rest) mk av.toArray, t, T', L, w1, hT, X', h1, h2, h3, h4, h5, h6, fun target h => hstep₁ _ fun acts => by rw [doInvoke_state]; exact h7.trans h⟩
theorem t_runV {b : Addr} {ci q0 : Nat} {fs : List Value} {TT : u_T} {N : Nat} (hx : p.tables.exec = Jvm.exec) (hb : c.code = cc) (hml : c.maxLocals = ls.size) (hown : s.vm.findClass own = some m.cls) (hk : tk s) (hK : va_K D vwCl tys s) (K : tV own ix y bytes maxL ret hh np) (hM : tMet l y bytes maxL ret hh rm D tys aS (.ref b :: As) wc ans Pw kc kn)
    (hP : va_P D vwCl wc H) (hD : va_D (fun q => q ≠ aS) wc) (hZ : xS aS s H) (hN : tNc s) (he : wc[q0]? = some (b, .inr (ci, fs))) (hc : vwCl[ci]? = some (y.cls, TT, N)) (hst : st0 = As.reverse ++ .ref b :: rest) (hav : As.length = np) (hR : kR R rm maxL cells slots) (hcat : (rest.map fun v => v.category).sum ≤ 8) (hdg : decode cc pc = .ok (.invokevirtual ix, 3)) :
    tRun p l e R s m args below meth c H locs cells slots (F0 m pc ls st0) rest D wc ans Pw kc kn := by
  obtain ⟨k1, k2, k2', k3, k4, k5⟩ := K
  intro T hT X0
  subst hb
  obtain ⟨mk, methM, hnamed, hmethM, hstM, habM⟩ := Cond.instanceMethod_spec (hk _ k2 args)
  obtain ⟨m8, methM', cM, hn8, hmethM', -, -, -, -, -, -, hsigM⟩ := Cond.codeWith_spec (hk _ k4 args)
  cases Option.some.inj (hn8.symm.trans hnamed)
  cases hmethM.symm.trans hmethM'
  obtain ⟨c2, r2, m2, q1, q2, q3, q4, kP, hkP, hkPi⟩ := Cond.selects_spec (hk _ k2' args)
  obtain ⟨cellB, hcB, hoB, hclB⟩ := va_recv hK hP hc he
  cases hclB.symm.trans q1
  cases (State.methodFound?_of_named hnamed ⟨k5.1, k5.2.1⟩).symm.trans q2
  cases hnamed.symm.trans q3
  have hselP : selectMethod e.platform s.vm cellB.cls mk = .method mk := by rw [Launch.admits_selectMethod X0.admits]; exact q4
  obtain ⟨vm₁, X₁, hstep₁⟩ := X0.invokevirtual hx hown (hk _ k1 args) hnamed hmethM hstM hkP hkPi ⟨k5.1, k5.2.1⟩ (a := b) (cell := cellB) (by rw [hT]; exact hcB)
    (fun z h => by rw [h] at hoB; cases hoB) hselP hmethM habM hkP hkPi (g := F0 m pc ls st0) rfl (argsL := As) (rest := rest) (hav.trans (k_len k5 _ hsigM)) hst hdg
  obtain ⟨t, T', L, w1, X', h1, h2, h3, h4, h5, h6, h7⟩ := tInto X₁ hM (g := F0 m pc ls rest) rfl hml.symm hdg (X₁.named hnamed) (tk_warm X₁.warmed hk) k4 k3 (lv_room hcat) hR (t_pre hk hK hP hD hZ hN _ hT X₁.warmed)
  exact ⟨(T.setVm vm₁).calling (F0 m pc ls rest) mk (Value.ref b :: As).toArray, t, T', L, w1, hT, X', h1, h2, h3, h4, h5, h6, fun target h => hstep₁ _ fun acts => by rw [doInvoke_state]; exact h7.trans h⟩
theorem t_call (hr : tRun p l e R s m args below meth c H locs cells slots (F0 m pc ls st0) rest D wcC ans Pw kc kn) (hP : va_P D vwCl W0 H) (hD : va_D A W0) (hS : va_S A H0 H locs)
    (is : List Nat) (hC : is.map (fun i => W0[i]?) = wcC.map some)
    (kk : ∀ (w1 : va_W) (H1 : Heap) (locs1 : List Loc), Pw w1 → va_P D vwCl (wset W0 is w1) H1 → va_D A (wset W0 is w1) → va_S A H0 H1 locs1 → W p l e R s m args below meth c H1 locs1 (cells + kc) (slots + kn) Q (F0 m (pc + 3) ls (ans.toList ++ rest))) : W p l e R s m args below meth c H locs cells slots Q (F0 m pc ls st0) := by
  intro T hT X0
  obtain ⟨st₀, t, T', L, w1, h0, X', hL, e1, hpw, hf, hp, ⟨hz, hk⟩, st⟩ := hr T hT X0
  rw [h0] at hz hk
  have hA : ∀ q, wA wcC q → A q := by
    rintro q ⟨k, ee, h⟩
    obtain ⟨i, -, g⟩ := wat hC k (q, ee) h
    exact hD.2 i (q, ee) g
  obtain ⟨j1, j2⟩ := wjoin hP hD hC hf hk hp
  obtain ⟨t2, a1, b1⟩ := kk w1 T'.heap (locs ++ L) hpw (by rw [e1]; exact j1) j2
    ⟨Nat.le_trans hS.1 (by rw [e1]; exact hz), fun q h1 h2 => by rw [e1, hk q (Nat.lt_of_lt_of_le h1 hS.1) (fun z => h2 (hA q z))]; exact hS.2.1 q h1 h2, fun q hq => by
      rcases List.mem_append.mp hq with h | h
      · exact hS.2.2 q h
      · exact hA _ (hL q h)⟩ T' rfl X'
  exact ⟨t2, st t2 a1, b1⟩
end TC
theorem aFld_bd {off sv t w : Int} {b e : RU} (go1 : -840 ≤ off) (go2 : off ≤ 840) (gs1 : 0 ≤ sv) (gs2 : sv ≤ 120) (ht1 : 0 ≤ t) (ht2 : t ≤ 10413791999999) : -100000000 ≤ aFld off sv b e t w ∧ aFld off sv b e t w ≤ 100000000 := by
  have hm := cMin_bd (b := b) (e := e) (t := t) go1 go2 gs1 gs2
  unfold aFld
  split
  · have := bI_b (cSum off sv b e t); omega
  · split
    · omega
    · unfold cPart
      generalize hd : (t + cMin off sv b e t * 60000) / 86400000 = d
      have hY := cY_b (d := d) (by omega) (by omega)
      have hM := cMo_b (cY d) d
      have hF := cFD_b (y := cY d) (mo := cMo (cY d) d) (by omega) (by omega) (by omega) (by omega)
      have hW := cWd_b d
      (repeat' split) <;> omega
theorem aIn_b (off sv : Int) (b e : RU) (t : Int) : 0 ≤ aIn off sv b e t ∧ aIn off sv b e t ≤ 1 := bI_b _
theorem aOut_b (off sv : Int) (b e : RU) (t : Int) : 0 ≤ aOut off sv b e t ∧ aOut off sv b e t ≤ 1 := bI_b _
