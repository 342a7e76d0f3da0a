/-! Methods that throw, and leave cells of which not all is told. -/
def xMetG (l : Launch) (y : MethodName) (cc : ByteArray) (n : Nat) (r : Option FieldType) (rm : Room) (D : va_G) (tys : List (ClassId × FieldType)) (aS : Nat) (av : List Value) (wc : va_W) (Qc : Array Value → State → Outcome → State → Prop) : Prop :=
  MetFree l y (headSpec [Cond.code y cc n r] rm) (xPre D tys aS av wc) (fun _ _ _ _ _ => True) (fun a st o t => Qc a st o t ∧ xEnd wc st o t)
def xQE (D : va_G) (wc : va_W) (Pw : va_W → Prop) (X : String) : Array Value → State → Outcome → State → Prop := fun _ st o t =>
  ∃ w1 : va_W, Pw w1 ∧ w1.map Prod.fst = wc.map Prod.fst ∧ va_P D vwCl w1 t.heap ∧ va_F (wA wc) st t ∧ ∃ x : Nat, o = .threw x ∧ st.heap.size ≤ x ∧ xAt X x t
theorem xMet.toE {l : Launch} {y : MethodName} {cc : ByteArray} {n : Nat} {r : Option FieldType} {rm : Room} {D : va_G} {tys : List (ClassId × FieldType)} {aS : Nat} {av : List Value} {wc w1 : va_W} {X : String} (h : xMet l y cc n r rm D tys aS av wc none X w1) {Pw : va_W → Prop} (hw : Pw w1) (hf : w1.map Prod.fst = wc.map Prod.fst) :
    xMetG l y cc n r rm D tys aS av wc (xQE D wc Pw X) := by
  intro p e ha hc hk s m args below hfr happ hP hK
  obtain ⟨k, o, h1, h2, h3, ⟨q1, q2, q3⟩, h5⟩ := h p e ha hc hk s m args below hfr happ hP hK
  exact ⟨k, o, h1, h2, h3, ⟨w1, hw, hf, q1, q2, q3⟩, h5⟩
theorem xG_of {l : Launch} {y : MethodName} {cc : ByteArray} {n : Nat} {r : Option FieldType} {rm : Room} {D : va_G} {tys : List (ClassId × FieldType)} {aS : Nat} {av : List Value} {wc : va_W} {Qc : Array Value → State → Outcome → State → Prop} (hy : plainName y.cls = true) (hn : (lg_sl av).length ≤ n)
    (body : ∀ p e s m below meth c, p.tables.exec = Jvm.exec → c.code = cc → meth.sig.returnType = r → s.vm.findClass y.cls = some m.cls → meth.locks = false → c.maxLocals = n → c.exceptionTable.isEmpty = true → tk s → va_K D vwCl tys s → va_P D vwCl wc s.heap → va_D (wA wc) wc → va_S (wA wc) s.heap s.heap [] → (∀ q, wA wc q → q ≠ aS) → xS aS s s.heap →
      ∀ ls : Array Slot, lv_has ls n (lv_args 0 av) → W p l e rm s m av.toArray below meth c s.heap [] 0 0 (xMQ below Qc av.toArray s wc) (F0 m 0 ls [])) : xMetG l y cc n r rm D tys aS av wc Qc := by
  refine MetFree.of_bodyS (code := cc) (maxLocals := n) (ret := r) hy ?_ ?_
  · intro args s m h hn
    obtain ⟨meth, c, h1, h2, h3, h4, h5, h6, -, -⟩ := Cond.code_spec hn (atoms_spec (ws := [Cond.code y cc n r]) h _ List.mem_cons_self)
    exact ⟨meth, c, h1, h2, h3, h4, h5, h6⟩
  · intro p e s m args below meth c s₁ B hml hv _
    obtain ⟨rfl, h1, h2, h3, h4, h5⟩ := hv
    have hh0 : s₁.heap = s.heap := by rw [B.state]; rfl
    have hl := lv_entry av (n := n) hn
    have hE := B.noHandlers (atoms_spec (ws := [Cond.code y cc n r]) B.pre _ List.mem_cons_self)
    have K := body p e s m below meth c B.exec B.bytes B.returns (findClass_of_methodNamed B.named) B.notSynchronized hml hE h1 h2 h3 ⟨h4.1, fun k q hk => ⟨k, q.2, hk⟩⟩ va_S.rf (fun q hq => by obtain ⟨k, ee, hk⟩ := hq; exact h4.2 k (q, ee) hk) h5 _ hl
    rw [← lg_entry_eq] at K
    obtain ⟨t, a1, o, b1, b2, b3⟩ := K s₁ hh0 (Stand.of_body B)
    exact ⟨t, o, a1, b1, b2, ⟨b3.1, b3.2⟩⟩
section XG
variable {p : Program} {l : Launch} {e : Env} {R : Room} {s : State} {m : MethodId} {args : Array Value} {below : List Frame} {meth : Method} {c : Code} {H : Heap} {locs : List Loc} {cells slots : Nat} {Q : State → Prop}
variable {cc bytes : ByteArray} {pc maxL np ix aS : Nat} {ls : Array Slot} {rest st0 av As : List Value} {own : String} {y : MethodName} {ret : Option FieldType} {rm : Room} {D : va_G} {tys : List (ClassId × FieldType)} {wc wcC W0 : va_W} {X : String} {Qc : Array Value → State → Outcome → State → Prop}
theorem xGInto {T : State} (X0 : Stand p l e R s m args below meth c T locs cells slots) (hM : xMetG l y bytes maxL ret rm D tys aS av wc Qc) {g : JFrame} {ig : Instr} (hg : g.method = m) (hsize : g.locals.size = c.maxLocals) (hdg : decode c.code g.pc = .ok (ig, 3))
    {mk : MethodId} (hn : T.methodNamed? y = some mk) (hk : tk T) (hc : Cond.code y bytes maxL ret ∈ tbg) (hi : Cond.initialized y.cls ∈ tbg) (hcat : 2 * g.monitorRoom + (g.stack.map fun v => v.category).sum ≤ 8) (hR : kR R rm maxL cells slots) (hpre : xPre D tys aS av wc av.toArray T) :
    ∃ (o : Outcome) (t T' : State) (L : List Loc) (k n : Nat), Stand p l e R s m args below meth c T' (locs ++ L) (cells + k) (slots + n) ∧ xCnt o k n ∧ (∀ q ∈ L, wA wc q.base) ∧ T'.heap = t.heap ∧ T'.vm = t.vm ∧ Qc av.toArray (T.calling g mk av.toArray) o t ∧
      Steps p.tables e below (doInvoke e (T.setTop g) [] mk av.toArray).1 (xOut g g.stack T' o) := by
  obtain ⟨r1, r2, r3, r4⟩ := hR
  obtain ⟨methY, cY, hmY, hcY, -, hlY, -, -, -, -⟩ := Cond.code_spec hn (hk _ hc #[])
  obtain ⟨kY, hkY, -⟩ := className_of_methodNamed hn
  have hinitY : kY.init = .initialized := Cond.initialized_spec (findClass_of_methodNamed hn) hkY (hk _ hi #[])
  have h : At T g.method c below := by rw [hg]; exact X0.here
  have happ : (headSpec [Cond.code y bytes maxL ret] rm).appliesLoose y e.platform (T.calling g mk av.toArray) = true :=
    Spec.appliesLoose_calling (g := g) h hdg hn hkY hinitY (X0.room_calling (g := g) (R' := rm) hsize hmY hcY r1 (by rw [hlY]; omega) r3 r4) (atoms_intro (fun w hw => by rw [List.mem_singleton] at hw; subst hw; exact hk _ hc _))
  obtain ⟨mid, hmid⟩ := h.above
  have hfr : (T.setTop g).frames = (.java g :: mid) ++ below := by rw [State.frames_setTop' g h.top, hmid]; rfl
  obtain ⟨o, s₂, hsteps, -, hend, hq, L, k, n, hW, hs, hcnt, hL⟩ := Steps.callFree hM p X0.admits X0.cas X0.clock (acts := []) hfr happ (xPre_blind _ T g mk hpre) trivial
  rw [State.frames_setTop' g h.top, X0.tail] at hend
  cases o with
  | returned v =>
    obtain ⟨T', X', -, -, ht⟩ := X0.outOf hg hdg hend hW hs
    exact ⟨.returned v, s₂, T', L, k, n, X', hcnt, hL, by rw [ht, x_heap], by rw [ht, x_vm], hq, by rw [ht] at hsteps; exact hsteps⟩
  | threw x =>
    obtain ⟨T', X', -, -, ht⟩ := X0.outOfThrown hg hend hW hs
    exact ⟨.threw x, s₂, T', L, k, n, X', hcnt, hL, by rw [ht, Stand.throwing_heap], by rw [ht, Stand.throwing_vm], hq, by rw [ht] at hsteps; exact hsteps⟩
theorem xG_runV {b : Addr} {ci q0 : Nat} {fs : List Value} {TT : u_T} {N : Nat} (hx : p.tables.exec = Jvm.exec) (hb : c.code = cc) (hml : c.maxLocals = ls.size) (hown : s.vm.findClass own = some m.cls) (hk : tk s) (hK : va_K D vwCl tys s) (K : kV own ix y bytes maxL ret np) (hM : xMetG l y bytes maxL ret rm D tys aS (.ref b :: As) wc Qc)
    (hP : va_P D vwCl wc H) (hD : va_D (fun q => q ≠ aS) wc) (hZ : xS aS s H) (he : wc[q0]? = some (b, .inr (ci, fs))) (hc : vwCl[ci]? = some (y.cls, TT, N)) (hst : st0 = As.reverse ++ .ref b :: rest) (hav : As.length = np) (hR : kR R rm maxL cells slots) (hcat : (rest.map fun v => v.category).sum ≤ 8) (hdg : decode cc pc = .ok (.invokevirtual ix, 3)) :
    xRun p l e R s m args below meth c H locs cells slots (F0 m pc ls st0) rest (Qc (Value.ref b :: As).toArray) wc := by
  obtain ⟨k1, k2, k2', k3, k4, k5⟩ := K
  intro T hT X0
  subst hb
  obtain ⟨mk, methM, hnamed, hmethM, hstM, habM⟩ := Cond.instanceMethod_spec (hk _ k2 args)
  obtain ⟨methM', cM, hmethM', -, -, -, -, -, -, hsigM⟩ := Cond.code_spec hnamed (hk _ k4 args)
  cases hmethM.symm.trans hmethM'
  obtain ⟨c2, r2, m2, q1, q2, q3, q4, kP, hkP, hkPi⟩ := Cond.selects_spec (hk _ k2' args)
  obtain ⟨cellB, hcB, hoB, hclB⟩ := va_recv hK hP hc he
  cases hclB.symm.trans q1
  cases (State.methodFound?_of_named hnamed ⟨k5.1, k5.2.1⟩).symm.trans q2
  cases hnamed.symm.trans q3
  have hselP : selectMethod e.platform s.vm cellB.cls mk = .method mk := by rw [Launch.admits_selectMethod X0.admits]; exact q4
  obtain ⟨vm₁, X₁, hstep₁⟩ := X0.invokevirtual hx hown (hk _ k1 args) hnamed hmethM hstM hkP hkPi ⟨k5.1, k5.2.1⟩ (a := b) (cell := cellB) (by rw [hT]; exact hcB)
    (fun z h => by rw [h] at hoB; cases hoB) hselP hmethM habM hkP hkPi (g := F0 m pc ls st0) rfl (argsL := As) (rest := rest) (hav.trans (k_len k5 _ hsigM)) hst hdg
  obtain ⟨o, t, T', L, k, n, X', h1, h2, h3, h4, h5, h6⟩ := xGInto X₁ hM (g := F0 m pc ls rest) rfl hml.symm hdg (X₁.named hnamed) (tk_warm X₁.warmed hk) k4 k3 (lv_room hcat) hR (x_pre hk hK hP hD hZ _ hT X₁.warmed)
  exact ⟨o, (T.setVm vm₁).calling (F0 m pc ls rest) mk (Value.ref b :: As).toArray, t, T', L, k, n, hT, X', h1, h2, h3, h4, h5, fun target h => hstep₁ _ fun acts => by rw [doInvoke_state]; exact h6.trans h⟩
/-- it threw, and nothing here catches it; what it left is told by Pc -/
theorem xE_thr {Pc Pw : va_W → Prop} {a : Array Value} (hr : xRun p l e R s m args below meth c H locs 0 0 (F0 m pc ls st0) rest (xQE D wcC Pc X a) wcC) (hE : c.exceptionTable.isEmpty = true) (hlk : meth.locks = false) (hP : va_P D vwCl W0 H) (hD : va_D (wA wc) W0) (hS : va_S (wA wc) s.heap H locs)
    (is : List Nat) (hC : is.map (fun i => W0[i]?) = wcC.map some) (hw0 : W0.map Prod.fst = wc.map Prod.fst) (h : ∀ w1, Pc w1 → Pw (wset W0 is w1)) :
    W p l e R s m args below meth c H locs 0 0 (xMQ below (xQE D wc Pw X) args s wc) (F0 m pc ls st0) := by
  intro T hT X0
  obtain ⟨o, st₀, t, T', L, k, n, h0, X', hcnt, hL, e1, e2, ⟨w1, hpc, hf, hp, ⟨hz, hk⟩, ⟨x, rfl, hx, ce, c1, c2, c3⟩⟩, st⟩ := hr T hT X0
  obtain ⟨rfl, rfl⟩ := hcnt
  rw [h0] at hz hk hx
  have hA : ∀ q, wA wcC q → wA wc q := by
    rintro q ⟨k, ee, h⟩
    obtain ⟨i, -, g⟩ := wat hC k (q, ee) h
    exact hD.2 i (q, ee) g
  obtain ⟨j1, j2⟩ := wjoin hP hD hC hf hk hp
  have hff : (wset W0 is w1).map Prod.fst = wc.map Prod.fst := by
    rw [← hw0]
    refine wset_fst is w1 W0 (fun j i x h1 h2 => ?_)
    have e3 : (wcC.map Prod.fst)[j]? = some x.1 := by rw [← hf, List.getElem?_map, h2]; rfl
    rw [List.getElem?_map] at e3
    cases hj : wcC[j]? with
    | none => rw [hj] at e3; cases e3
    | some x0 =>
      rw [hj] at e3
      obtain ⟨i2, g1, g2⟩ := wat hC j x0 hj
      cases h1.symm.trans g1
      rw [List.getElem?_map, g2]
      exact e3
  obtain ⟨hwalk, hrun, hended, hWU, hsame⟩ := X'.leaveThrown x (g := F0 m pc ls rest) rfl rfl rfl (fun z hz => by rw [Array.isEmpty_iff] at hE; rw [hE] at hz; cases hz) hlk
  refine ⟨_, st _ hwalk, .threw x, hrun, hended, ⟨wset W0 is w1, h w1 hpc, hff, ?_, ⟨?_, fun q h1 h2 => ?_⟩, x, rfl, Nat.le_trans hS.1 hx, ce, ?_, c2, ?_⟩, locs ++ L, 1, 6, hWU, hsame, ⟨rfl, rfl⟩, fun q hq => ?_⟩
  · show va_P D vwCl (wset W0 is w1) T'.heap
    rw [e1]; exact j1
  · show s.heap.size ≤ T'.heap.size
    rw [e1]; exact Nat.le_trans hS.1 hz
  · show T'.heap[q]? = s.heap[q]?
    rw [e1, hk q (Nat.lt_of_lt_of_le h1 hS.1) (fun z => h2 (hA q z))]
    exact hS.2.1 q h1 h2
  · show T'.heap[x]? = some ce
    rw [e1]; exact c1
  · show T'.vm.findClass X = some ce.cls
    rw [e2]; exact c3
  · rcases List.mem_append.mp hq with h | h
    · exact hS.2.2 q h
    · exact hA _ (hL q h)
end XG
/-! the reading's states, step by step, as they fail or go on -/
theorem zByte_okc {n : Nat} {f : Nat → Int32} {c : Int} {i : Nat} (h : (zByte n f c (i, false)).2 = false) : zPk n f i = c := by
  by_cases q : zPk n f i = c
  · exact q
  · rw [zByte_ne q] at h; cases h
theorem zByte_bdc {n : Nat} {f : Nat → Int32} {c : Int} {i : Nat} (h : (zByte n f c (i, false)).2 = true) : zPk n f i ≠ c ∧ zByte n f c (i, false) = (i, true) := by
  by_cases q : zPk n f i = c
  · rw [zByte_eq q] at h; cases h
  · exact ⟨q, zByte_ne q⟩
theorem zBl_okc {n : Nat} {f : Nat → Int32} {i : Nat} (h : (zBl n f (i, false)).2 = false) : zPk n f i = 32 := by
  by_cases q : zPk n f i = 32
  · exact q
  · simp [zBl, q] at h
theorem zBl_bdc {n : Nat} {f : Nat → Int32} {i : Nat} (h : (zBl n f (i, false)).2 = true) : zPk n f i ≠ 32 ∧ zBl n f (i, false) = (i, true) := by
  by_cases q : zPk n f i = 32
  · simp [zBl, q] at h
  · exact ⟨q, by simp [zBl, q]⟩
theorem zBl_go {n : Nat} {f : Nat → Int32} {i : Nat} (h : zPk n f i = 32) : (zBl n f (i, false)).1 = zSkip f (n - i) i := by
  have hi : i < n := zPk_lt (f := f) (by omega)
  rw [zSkip_go (f := f) (n := n) (j := i) hi (by rw [← zPk_in (n := n) (f := f) (i := i) hi]; exact h)]
  simp [zBl, h]
theorem zNum_okc {n : Nat} {f : Nat → Int32} {lo hi : Int} {i : Nat} (h : (zNum n f lo hi (i, false)).2.2 = false) : lo ≤ (zDg n f i).1 ∧ (zDg n f i).1 ≤ hi ∧ zNum n f lo hi (i, false) = ((zDg n f i).1, ((zDg n f i).2, false)) := by
  by_cases q : (zDg n f i).1 < lo ∨ hi < (zDg n f i).1
  · rw [zNum_bad q] at h; cases h
  · exact ⟨by omega, by omega, zNum_good q⟩
theorem zNum_bdc {n : Nat} {f : Nat → Int32} {lo hi : Int} {i : Nat} (h : (zNum n f lo hi (i, false)).2.2 = true) : ((zDg n f i).1 < lo ∨ hi < (zDg n f i).1) ∧ zNum n f lo hi (i, false) = ((zDg n f i).1, (i, true)) := by
  by_cases q : (zDg n f i).1 < lo ∨ hi < (zDg n f i).1
  · exact ⟨q, zNum_bad q⟩
  · rw [zNum_good q] at h; cases h
theorem zp_eta {z : Nat × Bool} (h : z.2 = false) : z = (z.1, false) := by rw [← h]
