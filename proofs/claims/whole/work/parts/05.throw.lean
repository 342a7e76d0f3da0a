/-! Methods that may throw: their contracts, the throwing of a new exception, calls of such methods, the catching. -/
def xZ (n d : String) (aS : Nat) (U : State) (H : Heap) : Prop := ∃ (c : ClassId) (k : Class) (i : Nat) (f : Field) (cell : Cell) (u : RefV), U.vm.findClass Bundle.tN = some c ∧ U.fieldFound? Bundle.tN n d = some (c, k, i, f) ∧ f.isStatic = true ∧ k.statics = some aS ∧ H[aS]? = some cell ∧ cell.vm.isStatics = true ∧ cell.cls = c ∧ f.slot < cell.slots.size ∧ k.staticTypes[f.slot]? = some f.type ∧ cell.slots[f.slot]? = some u.v
theorem xZ.moved {n d : String} {aS : Nat} {u U : State} {H : Heap} (hvm : u.vm.Alike U.vm) (h : xZ n d aS u H) : xZ n d aS U H := by
  obtain ⟨c, k, i, f, cell, x, h1, h2, h3, h4, h5, h6, h7, h8, h9, h10⟩ := h
  obtain ⟨k', hi', he⟩ := State.fieldFound?_setVm hvm h2
  exact ⟨c, k', i, f, cell, x, by rw [hvm.findClass]; exact h1, hi', h3, by rw [he]; exact h4, h5, h6, h7, h8, by rw [he]; exact h9, h10⟩
theorem xZ.kept {n d : String} {aS : Nat} {U : State} {H H1 : Heap} (h : xZ n d aS U H) (hq : H1[aS]? = H[aS]?) : xZ n d aS U H1 := by
  obtain ⟨c, k, i, f, cell, x, h1, h2, h3, h4, h5, h6⟩ := h
  exact ⟨c, k, i, f, cell, x, h1, h2, h3, h4, by rw [hq]; exact h5, h6⟩
theorem xZ.word {n d : String} {aS : Nat} {s : State} {args : Array Value} (h : xZ n d aS s s.heap) : (Cond.laysStatic Bundle.tN n d).before args s = true := by
  obtain ⟨c, k, i, f, cell, x, h1, h2, h3, h4, h5, h6, h7, h8, h9, -⟩ := h
  show (Cond.laysStatic Bundle.tN n d).holds args s none s [] = true
  exact Cond.laysStatic_of h1 h2 h3 h4 h5 h6 h7 h8 h9
def xS (aS : Nat) (U : State) (H : Heap) : Prop := xZ "UNASSIGNED_STACK" Bundle.steD aS U H ∧ xZ "SUPPRESSED_SENTINEL" Bundle.listD aS U H ∧ aS < H.size
theorem xS.moved {aS : Nat} {u U : State} {H : Heap} (hvm : u.vm.Alike U.vm) (h : xS aS u H) : xS aS U H := ⟨h.1.moved hvm, h.2.1.moved hvm, h.2.2⟩
theorem xS.kept {aS : Nat} {U : State} {H H1 : Heap} (h : xS aS U H) (hq : H1[aS]? = H[aS]?) : xS aS U H1 := ⟨h.1.kept hq, h.2.1.kept hq, by
  obtain ⟨_, _, _, _, cell, _, _, _, _, _, h3, _⟩ := h.1
  rw [← hq] at h3
  exact (Array.getElem?_eq_some_iff.mp h3).1⟩
def xAtoms (own : String) (ic : Nat) (X : String) (names : List String) : List Cond :=
  Bundle.throwableAtoms ++ Bundle.chain0Atoms X names ++
  [.methodLink own ic (Bundle.init0 X), .instantiable X 6, .selects X Bundle.tFill0 Bundle.tFill0, .selects X Bundle.tFill Bundle.tFill,
   .lays X Bundle.tN "cause" "Ljava/lang/Throwable;", .lays X Bundle.tN "stackTrace" Bundle.steD, .lays X Bundle.tN "suppressedExceptions" Bundle.listD,
   .fieldLink Bundle.tN 198 Bundle.tN "backtrace" "Ljava/lang/Object;", .lays Bundle.tN Bundle.tN "backtrace" "Ljava/lang/Object;", .lays X Bundle.tN "backtrace" "Ljava/lang/Object;"]
set_option maxHeartbeats 1000000 in
/-- the constructor of a new exception, without a message, under a launch without stack traces -/
theorem x_ctor {p : Program} {l : Launch} {e : Env} {R : Room} {s : State} {m₀ : MethodId} {args : Array Value} {below : List Frame} {meth : Method} {c : Code} {T0 : State} {locs : List Loc} {cells slots : Nat}
    (X : Stand p l e R s m₀ args below meth c T0 locs cells slots) (hexec : p.tables.exec = Jvm.exec) (htr : e.platform.stackTraces = false) {own cls : String} {names : List String} {ic aS : Nat}
    (hown : s.vm.findClass own = some m₀.cls) (hcls : Bundle.fit cls = true) (hnames : ∀ n ∈ names, Bundle.fit n = true)
    (h : ∀ a ∈ xAtoms own ic cls names, a.before args s = true) (hZ : xS aS s T0.heap)
    {a : Addr} {cX : ClassId} {kX : Class} (hfoundX : s.vm.findClass cls = some cX) (hkX : s.vm.classes[cX]? = some kX) (hcell : T0.heap[a]? = some (freshCell cX kX)) (hnew : s.heap.size ≤ a) (hneS : aS ≠ a)
    {g : JFrame} (hg : g.method = m₀) (hsize : g.locals.size = c.maxLocals) {rest : List Value} (hstack : g.stack = .ref a :: .ref a :: rest)
    (hd6 : decode c.code g.pc = .ok (.invokespecial ic, 3))
    (hRframes : names.length + 3 < R.frames) (hRlocals : 2 * g.monitorRoom + ((Value.ref a :: rest).map fun v => v.category).sum + (13 * (names.length + 1) + 41) ≤ R.locals) :
    ∃ (vm' : Vm) (ce : Cell), ce.cls = cX ∧ ce.vm = .none ∧ Stand p l e R s m₀ args below meth c ((T0.setVm vm').setCell a ce) locs cells slots ∧
      ∀ target, Steps p.tables e below (((T0.setVm vm').setCell a ce).setTop { g with stack := .ref a :: rest, pc := g.pc + 3 }) target → Steps p.tables e below (T0.setTop g) target := by
  have howns : e.platform.frameOwnsMonitors = true := by rw [X.admits.platform]
  have hfin : e.platform.finalization = false := by rw [X.admits.platform]
  have hpl : e.platform.magicAccessors = ({} : Platform).magicAccessors := by rw [X.admits.platform]
  have a' : ∀ x, x ∈ xAtoms own ic cls names → x.holds args s none s [] = true := fun x hx => h x hx
  obtain ⟨T, Z, L, LZ, Y⟩ := ThrowableC.of_atoms (args := args) howns hfin hpl (fun x hx => h x (by simp [xAtoms, hx]))
  obtain ⟨P1, Ps, hlen, L1, hL, hP1m, hlink1, hlink⟩ := Bundle.chain0 (args := args) hpl Y.init0 names cls hcls hnames (fun x hx => h x (by simp [xAtoms, hx]))
  have hfound : s.vm.findClass cls = some P1.m.cls := findClass_of_methodNamed hP1m
  cases Option.some.inj (hfoundX.symm.trans hfound)
  obtain ⟨c1, kX', hc1, hk, hord, -, -, hn6⟩ := Cond.instantiable_spec (a' (.instantiable cls 6) (by simp [xAtoms]))
  cases Option.some.inj (hc1.symm.trans hfound)
  cases Option.some.inj (hkX.symm.trans hk)
  have hsel0 : selectMethod e.platform s.vm P1.m.cls T.fill0 = .method T.fill0 := by
    obtain ⟨c2, r2, m2, q1, q2, q3, q4, -⟩ := Cond.selects_spec (a' (.selects cls Bundle.tFill0 Bundle.tFill0) (by simp [xAtoms]))
    cases Option.some.inj (q1.symm.trans hfound)
    cases Option.some.inj (q2.symm.trans (State.methodFound?_of_named Y.fill0 (by decide)))
    cases Option.some.inj (q3.symm.trans Y.fill0)
    rw [Launch.admits_selectMethod X.admits]; exact q4
  have hselF : selectMethod e.platform s.vm P1.m.cls T.fill = .method T.fill := by
    obtain ⟨c2, r2, m2, q1, q2, q3, q4, -⟩ := Cond.selects_spec (a' (.selects cls Bundle.tFill Bundle.tFill) (by simp [xAtoms]))
    cases Option.some.inj (q1.symm.trans hfound)
    cases Option.some.inj (q2.symm.trans (State.methodFound?_of_named Y.fill (by decide)))
    cases Option.some.inj (q3.symm.trans Y.fill)
    rw [Launch.admits_selectMethod X.admits]; exact q4
  obtain ⟨⟨cf1, kf1, fi1, f1, cell1, u0, -, hf1, -, hs1, hc1', hi1, -, -, -, hv1⟩, ⟨cf2, kf2, fi2, f2, cell2, sen, -, hf2, -, hs2, hc2', hi2, -, -, -, hv2⟩, -⟩ := hZ
  cases hf1.symm.trans Y.unassigned
  cases hf2.symm.trans Y.sentinel
  cases hs1.symm.trans L.statics
  cases hc1'.symm.trans hc2'
  obtain ⟨ci198, i198, fB, hk198, hg198, ha198, hsB, -, hnB, htB, hffB⟩ := Cond.ownField (t := .object "java/lang/Object") Y.found L.cls (by decide +kernel) (a' (.fieldLink Bundle.tN 198 Bundle.tN "backtrace" "Ljava/lang/Object;") (by simp [xAtoms])) (a' (.lays Bundle.tN Bundle.tN "backtrace" "Ljava/lang/Object;") (by simp [xAtoms])) e.platform hpl
  have hknownS : cell1.vm ≠ .unknown := by
    intro hu
    rw [hu] at hi1
    cases hi1
  obtain ⟨tyC, dC, hdC, hdnC⟩ := Cond.laysAt hfound hk Y.cause (a' (.lays cls Bundle.tN "cause" "Ljava/lang/Throwable;") (by simp [xAtoms]))
  obtain ⟨tyS, dS, hdS, hdnS⟩ := Cond.laysAt hfound hk Y.stack (a' (.lays cls Bundle.tN "stackTrace" Bundle.steD) (by simp [xAtoms]))
  obtain ⟨tyP, dP, hdP, hdnP⟩ := Cond.laysAt hfound hk Y.supp (a' (.lays cls Bundle.tN "suppressedExceptions" Bundle.listD) (by simp [xAtoms]))
  obtain ⟨tyB, dB, hdB, hdnB⟩ := Cond.laysAt hfound hk hffB (a' (.lays cls Bundle.tN "backtrace" "Ljava/lang/Object;") (by simp [xAtoms]))
  have bC := Cond.laysApart hdB hdC hdnB hdnC (by rw [hnB, Y.causeName]; decide)
  have bS := Cond.laysApart hdB hdS hdnB hdnS (by rw [hnB, Y.stackName]; decide)
  have bP := Cond.laysApart hdB hdP hdnB hdnP (by rw [hnB, Y.suppName]; decide)
  have hskip : SkipFacts T e.platform s (fun u => u) u0 ((preparedCellV T.toThrowableT (freshCell P1.m.cls kX) a u0 sen).withEntry T0.cur) :=
    ⟨{ ci198 := ci198, i198 := i198, fBack := fB }, ⟨hk198, hg198, ha198, hsB⟩, by
      have := fresh_default (c := P1.m.cls) tyB
      rw [htB] at this
      simpa [preparedCellV, Cell.setSlot, Cell.withEntry, Array.getElem?_setIfInBounds, bC, bS, bP, bC.symm, bS.symm, bP.symm, defaultValue] using this, fun _ _ => rfl⟩
  obtain ⟨tm, methC, cdC, kC, vm₁, hnC, -, -, -, -, -, -, -, hW₁, st1⟩ := Steps.initCold (tb := p.tables) (e := e) (below := below) (s := s) (U := T0) X.here hexec X.warmed hpl hown (t := Bundle.init0 cls) rfl rfl (Bundle.fit_spec hcls).2
    (a' (.methodLink own ic (Bundle.init0 cls)) (by simp [xAtoms])) (h (.instanceMethod (Bundle.init0 cls)) (by cases names <;> simp [xAtoms, Bundle.chain0Atoms, Bundle.passAtoms])) (bytes := Bundle.five) (maxL := 1) (h (.code (Bundle.init0 cls) Bundle.five 1 none) (by cases names <;> simp [xAtoms, Bundle.chain0Atoms, Bundle.passAtoms]))
    (f := g) hg (a := a) (rest := .ref a :: rest) hstack hd6
  cases Option.some.inj (hnC.symm.trans hP1m)
  have X₁ := X.noted hW₁
  obtain ⟨vm₂, X₂, st2⟩ := X₁.ctorPlainOffV hexec (g := { g with stack := .ref a :: rest }) hg hsize T L Z LZ (P1 :: Ps)
    (fun P hP => by rcases List.mem_cons.mp hP with rfl | hP; exact L1; exact hL P hP) ⟨hlink1, hlink⟩ (u0 := u0) (sen := sen) (self := a) (cell := freshCell P1.m.cls kX) (cellS := cell1)
    hcell (fun _ => by simp) (by simp) rfl rfl hsel0 hselF hc1' hneS hknownS hv1 hv2
    (Takes.of_laid hk hord tyC (by rw [Y.causeType]; rfl)) (Takes.of_laid hk hord tyS (by rw [Y.stackType]; exact fits_refV_array _ u0)) (Takes.of_laid hk hord tyP (by rw [Y.suppType]; exact fits_refV_object _ sen)) Y.objLocals hskip htr [] hd6
    (by simp only [List.length_cons, hlen]; omega) (by simp only [List.length_cons, hlen]; exact hRlocals)
  refine ⟨vm₂, _, rfl, rfl, X₂.forget (fun y hy => ?_), fun target ht => st1 _ (fun acts => ?_)⟩
  · have hb : y.base = a := by
      simp only [List.mem_cons, List.not_mem_nil, or_false] at hy
      rcases hy with rfl | rfl | rfl | rfl <;> rfl
    rw [hb]; exact hnew
  · rw [doInvoke_state]
    exact st2 _ ht
def xCnt (o : Outcome) (k n : Nat) : Prop := match o with
  | .returned _ => k = 0 ∧ n = 0
  | .threw _ => k = 1 ∧ n = 6
def xEnd (wc : va_W) (st : State) (o : Outcome) (t : State) : Prop := ∃ (L : List Loc) (k n : Nat), st.WarmedH t.vm ∧ st.sameButNew ({ t with vm := st.vm } : State) L k n ∧ xCnt o k n ∧ ∀ q ∈ L, wA wc q.base
def xPre (D : va_G) (tys : List (ClassId × FieldType)) (aS : Nat) (av : List Value) (wc : va_W) : Array Value → State → Prop :=
  va_Pc av (fun U => tk U ∧ va_K D vwCl tys U ∧ va_P D vwCl wc U.heap ∧ va_D (fun q => q ≠ aS) wc ∧ xS aS U U.heap)
/-- an exception of the class X lies at x -/
def xAt (X : String) (x : Nat) (t : State) : Prop := ∃ ce : Cell, t.heap[x]? = some ce ∧ ce.vm = .none ∧ t.vm.findClass X = some ce.cls
def xQ (D : va_G) (wc : va_W) (res : Option (Option Value)) (X : String) (w1 : va_W) : Array Value → State → Outcome → State → Prop := fun _ st o t =>
  va_P D vwCl w1 t.heap ∧ va_F (wA wc) st t ∧ match res with
    | some ans => o = .returned ans
    | none => ∃ x : Nat, o = .threw x ∧ st.heap.size ≤ x ∧ xAt X x t
def xMet (l : Launch) (y : MethodName) (cc : ByteArray) (n : Nat) (r : Option FieldType) (rm : Room) (D : va_G) (tys : List (ClassId × FieldType)) (aS : Nat) (av : List Value) (wc : va_W) (res : Option (Option Value)) (X : String) (w1 : va_W) : Prop :=
  MetFree l y (headSpec [Cond.code y cc n r] rm) (xPre D tys aS av wc) (fun _ _ _ _ _ => True) (fun a st o t => xQ D wc res X w1 a st o t ∧ xEnd wc st o t)
def xMQ (below : List Frame) (Qc : Array Value → State → Outcome → State → Prop) (a : Array Value) (s : State) (wc : va_W) : State → Prop := fun t =>
  ∃ o, t.status = .running ∧ Ended t below o ∧ Qc a s o t ∧ xEnd wc s o t
theorem xMet_of {l : Launch} {y : MethodName} {cc : ByteArray} {n : Nat} {r : Option FieldType} {rm : Room} {D : va_G} {tys : List (ClassId × FieldType)} {aS : Nat} {av : List Value} {wc w1 : va_W} {res : Option (Option Value)} {X : String} (hy : plainName y.cls = true) (hn : (lg_sl av).length ≤ n)
    (body : ∀ p e s m below meth c, p.tables.exec = Jvm.exec → c.code = cc → meth.sig.returnType = r → s.vm.findClass y.cls = some m.cls → meth.locks = false → c.maxLocals = n → c.exceptionTable.isEmpty = true → tk s → va_K D vwCl tys s → va_P D vwCl wc s.heap → va_D (wA wc) wc → va_S (wA wc) s.heap s.heap [] → (∀ q, wA wc q → q ≠ aS) → xS aS s s.heap →
      ∀ ls : Array Slot, lv_has ls n (lv_args 0 av) → W p l e rm s m av.toArray below meth c s.heap [] 0 0 (xMQ below (xQ D wc res X w1) av.toArray s wc) (F0 m 0 ls [])) : xMet l y cc n r rm D tys aS av wc res X w1 := by
  refine MetFree.of_bodyS (code := cc) (maxLocals := n) (ret := r) hy ?_ ?_
  · intro args s m h hn
    obtain ⟨meth, c, h1, h2, h3, h4, h5, h6, -, -⟩ := Cond.code_spec hn (atoms_spec (ws := [Cond.code y cc n r]) h _ List.mem_cons_self)
    exact ⟨meth, c, h1, h2, h3, h4, h5, h6⟩
  · intro p e s m args below meth c s₁ B hml hv _
    obtain ⟨rfl, h1, h2, h3, h4, h5⟩ := hv
    have hh0 : s₁.heap = s.heap := by rw [B.state]; rfl
    have hl := lv_entry av (n := n) hn
    have hE := B.noHandlers (atoms_spec (ws := [Cond.code y cc n r]) B.pre _ List.mem_cons_self)
    have K := body p e s m below meth c B.exec B.bytes B.returns (findClass_of_methodNamed B.named) B.notSynchronized hml hE h1 h2 h3 ⟨h4.1, fun k q hk => ⟨k, q.2, hk⟩⟩ va_S.rf (fun q hq => by obtain ⟨k, ee, hk⟩ := hq; exact h4.2 k (q, ee) hk) h5 _ hl
    rw [← lg_entry_eq] at K
    obtain ⟨t, a1, o, b1, b2, b3⟩ := K s₁ hh0 (Stand.of_body B)
    exact ⟨t, o, a1, b1, b2, ⟨b3.1, b3.2⟩⟩
section XR
variable {p : Program} {l : Launch} {e : Env} {R : Room} {s : State} {m : MethodId} {args : Array Value} {below : List Frame} {meth : Method} {c : Code} {H : Heap} {locs : List Loc} {cells slots : Nat} {Q : State → Prop}
variable {cc : ByteArray} {pc : Nat} {ls : Array Slot} {rest : List Value} {D : va_G} {wc w w1 : va_W} {res : Option (Option Value)} {X : String}
theorem x_mono {Q' : State → Prop} {g : JFrame} (h : ∀ t, Q t → Q' t) (k : W p l e R s m args below meth c H locs cells slots Q g) : W p l e R s m args below meth c H locs cells slots Q' g := by
  intro T hT X
  obtain ⟨t, a, b⟩ := k T hT X
  exact ⟨t, a, h t b⟩
theorem xr_of {Qc : Array Value → State → Outcome → State → Prop} : ∀ t, MQ below Qc args s 0 0 (wA wc) t → xMQ below Qc args s wc t := by
  rintro t ⟨o, h1, h2, h3, L, ⟨⟨v, rfl⟩, h4, h5⟩, h6⟩
  exact ⟨_, h1, h2, h3, L, 0, 0, h4, h5, ⟨rfl, rfl⟩, h6⟩
theorem x_vret (hx : p.tables.exec = Jvm.exec) (hb : c.code = cc) (hr : meth.sig.returnType = none) (hlk : meth.locks = false) (hP : va_P D vwCl w H) (hS : va_S (wA wc) s.heap H locs) (hdg : decode cc pc = .ok (.return_, 1)) (h : w = w1) (hres : res = some none) :
    W p l e R s m args below meth c H locs 0 0 (xMQ below (xQ D wc res X w1) args s wc) (F0 m pc ls []) := by
  subst h; subst hres
  exact x_mono xr_of (W.vret hx hb hr (fun t ht _ => ⟨by rw [ht]; exact hP, hS.F ht, rfl⟩) hS.2.2 hdg hlk)
theorem x_iret {x z : Int} (hx : p.tables.exec = Jvm.exec) (hb : c.code = cc) (hr : meth.sig.returnType = some .int) (hlk : meth.locks = false) (hP : va_P D vwCl w H) (hS : va_S (wA wc) s.heap H locs) (hdg : decode cc pc = .ok (.ireturn, 1)) (h : w = w1) (hres : res = some (some (.int (iI z)))) (h2 : x = z) :
    W p l e R s m args below meth c H locs 0 0 (xMQ below (xQ D wc res X w1) args s wc) (F0 m pc ls [.int (iI x)]) := by
  subst h; subst hres; subst h2
  exact x_mono xr_of (W.iret hx hb hr (fun t ht _ => ⟨by rw [ht]; exact hP, hS.F ht, rfl⟩) hS.2.2 hdg hlk)
theorem x_lret {x z : Int} (hx : p.tables.exec = Jvm.exec) (hb : c.code = cc) (hr : meth.sig.returnType = some .long) (hlk : meth.locks = false) (hP : va_P D vwCl w H) (hS : va_S (wA wc) s.heap H locs) (hdg : decode cc pc = .ok (.lreturn, 1)) (h : w = w1) (hres : res = some (some (.long (lL z)))) (h2 : x = z) :
    W p l e R s m args below meth c H locs 0 0 (xMQ below (xQ D wc res X w1) args s wc) (F0 m pc ls [.long (lL x)]) := by
  subst h; subst hres; subst h2
  exact x_mono xr_of (W.lret hx hb hr (fun t ht _ => ⟨by rw [ht]; exact hP, hS.F ht, rfl⟩) hS.2.2 hdg hlk)
theorem x_aret {q : Nat} {C : String} (hx : p.tables.exec = Jvm.exec) (hb : c.code = cc) (hr : meth.sig.returnType = some (.object C)) (hlk : meth.locks = false) (hP : va_P D vwCl w H) (hS : va_S (wA wc) s.heap H locs) (hdg : decode cc pc = .ok (.areturn, 1)) (h : w = w1) (hres : res = some (some (.ref q))) :
    W p l e R s m args below meth c H locs 0 0 (xMQ below (xQ D wc res X w1) args s wc) (F0 m pc ls [.ref q]) := by
  subst h; subst hres
  exact x_mono xr_of (W.aret hx hb hr (Or.inl ⟨_, rfl⟩) (Or.inr ⟨_, rfl⟩) (fun t ht _ => ⟨by rw [ht]; exact hP, hS.F ht, rfl⟩) hS.2.2 hdg hlk)
/-- the words of a new exception's throwing: new at ix, the constructor at ic -/
def xWords (own : String) (ix ic : Nat) (X : String) (names : List String) : Prop := (∀ w ∈ (xAtoms own ic X names).filter tk_good, w ∈ tbg) ∧ (∀ w ∈ xAtoms own ic X names, tk_good w = true ∨ w = .laysStatic Bundle.tN "UNASSIGNED_STACK" Bundle.steD ∨ w = .laysStatic Bundle.tN "SUPPRESSED_SENTINEL" Bundle.listD) ∧ Cond.classLink own ix X ∈ tbg ∧ Cond.initialized X ∈ tbg ∧ Bundle.fit X = true ∧ ∀ n ∈ names, Bundle.fit n = true
theorem x_throw {own : String} {ix ic aS : Nat} {names : List String} (hx : p.tables.exec = Jvm.exec) (hb : c.code = cc) (hlk : meth.locks = false) (hml : c.maxLocals = ls.size) (hE : c.exceptionTable.isEmpty = true) (hown : s.vm.findClass own = some m.cls) (hk : tk s) (hoff : l.stackTraces = false) (K : xWords own ix ic X names)
    (hP : va_P D vwCl w H) (hS : va_S (wA wc) s.heap H locs) (hA : ∀ q, wA wc q → q ≠ aS) (hZ : xS aS s s.heap)
    (d0 : decode cc pc = .ok (.new ix, 3)) (d3 : decode cc (pc + 3) = .ok (.dup, 1)) (d4 : decode cc (pc + 4) = .ok (.invokespecial ic, 3)) (d7 : decode cc (pc + 7) = .ok (.athrow, 1))
    (h : w = w1) (hres : res = none) (hR : 1 ≤ R.cells ∧ 6 ≤ R.slots ∧ names.length + 3 < R.frames ∧ (rest.map fun v => v.category).sum + (13 * (names.length + 1) + 42) ≤ R.locals) :
    W p l e R s m args below meth c H locs 0 0 (xMQ below (xQ D wc res X w1) args s wc) (F0 m pc ls rest) := by
  subst h; subst hres
  obtain ⟨K1, K0, K2, K3, K4, K5⟩ := K
  have wd : ∀ w ∈ xAtoms own ic X names, w.before args s = true := fun w hw => by
    rcases K0 w hw with h | rfl | rfl
    · exact hk w (K1 w (List.mem_filter.mpr ⟨hw, h⟩)) args
    · exact hZ.1.word
    · exact hZ.2.1.word
  refine W.newc hx hb hown (hk _ K2 args) (wd (.instantiable X 6) (by simp [xAtoms])) (hk _ K3 args) rfl d0 (by omega) (by omega) (fun cC kC h1 h2 h3 h4 => ?_)
  refine lv_dup (va := .ref H.size) hx hb d3 rfl ?_
  intro T hT X0
  subst hb
  have hH : s.heap.size ≤ H.size := hS.1
  have hZH : xS aS s T.heap := by
    rw [hT]
    refine hZ.kept ?_
    rw [Array.getElem?_push, if_neg (by have := hZ.2.2; omega)]
    exact hS.2.1 aS hZ.2.2 (fun q => hA aS q rfl)
  obtain ⟨vm', ce, c1, c2, X1, st⟩ := x_ctor (a := H.size) (cX := cC) (kX := kC) (rest := rest) X0 hx (by rw [X0.admits.platform]; exact hoff) hown K4 K5 wd hZH h1 h2 (by rw [hT]; simp [freshCell]) hH (by have := hZ.2.2; omega)
    (g := F0 m (pc + 4) ls (.ref H.size :: .ref H.size :: rest)) rfl hml.symm rfl d4 hR.2.2.1 (by rw [List.map_cons, List.sum_cons]; show 2 * 0 + (1 + (rest.map fun v => v.category).sum) + _ ≤ _; omega)
  obtain ⟨hwalk, hrun, hended, hWU, hsame⟩ := X1.athrowLeaves hx (g := { F0 m (pc + 4) ls (.ref H.size :: .ref H.size :: rest) with stack := .ref H.size :: rest, pc := pc + 4 + 3 }) rfl rfl rfl (fun x hx => by rw [Array.isEmpty_iff] at hE; rw [hE] at hx; cases hx) (a := H.size) (rest := rest) rfl d7 hlk
  have hU : ((T.setVm vm').setCell H.size ce).heap = (H.push { cls := cC, slots := kC.instanceTypes.map defaultValue, vm := .none }).setIfInBounds H.size ce := by rw [← hT]; rfl
  have hat : ((T.setVm vm').setCell H.size ce).heap[H.size]? = some ce := by rw [hU]; simp
  have hlow : ∀ q : Nat, q < H.size → ((T.setVm vm').setCell H.size ce).heap[q]? = H[q]? := fun q hq => by
    rw [hU, Array.getElem?_setIfInBounds, if_neg (by omega), Array.getElem?_push, if_neg (by omega)]
  refine ⟨_, st _ hwalk, .threw H.size, hrun, hended, ⟨?_, ?_, H.size, rfl, hH, ce, hat, c2, ?_⟩, locs, 1, 6, hWU, ?_, ⟨rfl, rfl⟩, hS.2.2⟩
  · exact hP.kept (fun k q hq => hlow q.1 (hP k q hq).lt)
  · refine ⟨?_, fun q h1 h2 => ?_⟩
    · show s.heap.size ≤ ((T.setVm vm').setCell H.size ce).heap.size
      rw [hU]; simp; omega
    · exact (hlow q (by omega)).trans (hS.2.1 q h1 h2)
  · show ((T.setVm vm').setCell H.size ce).vm.findClass X = some ce.cls
    rw [c1, X1.warmed.alike.findClass]
    exact h1
  · exact hsame
end XR
