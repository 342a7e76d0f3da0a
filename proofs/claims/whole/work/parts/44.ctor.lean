/-! Constructors: contracts of methods that make new cells; the rows that make them. -/
def nX (U : State) : Prop := va_AO "ZoneClock$Zone" U ∧ (∀ a : Array Value, (Cond.arrayOver (.array .long)).before a U = true) ∧ ∀ a : Array Value, (Cond.arrayOver (.array .boolean)).before a U = true
def nPre (D : va_G) (tys : List (ClassId × FieldType)) (N0 : Nat) (av : List Value) (wc : va_W) : Array Value → State → Prop :=
  va_Pc av (fun U => tk U ∧ va_K D vwCl tys U ∧ va_P D vwCl wc U.heap ∧ va_D (fun _ => True) wc ∧ nX U ∧ U.heap.size = N0)
def nQ (D : va_G) (N0 : Nat) (wc : va_W) (Pw : va_W → Prop) : Array Value → State → Outcome → State → Prop := fun _ st o t =>
  o = .returned none ∧ (∃ w1 : va_W, Pw w1 ∧ va_P D vwCl w1 t.heap ∧ va_D (va_A wc N0) w1) ∧ va_F (va_A wc N0) st t
def nMet (l : Launch) (y : MethodName) (cc : ByteArray) (n : Nat) (rm : Room) (D : va_G) (tys : List (ClassId × FieldType)) (N0 : Nat) (av : List Value) (wc : va_W) (Pw : va_W → Prop) (kc kn : Nat) : Prop :=
  Met l y [Cond.code y cc n none] rm (nPre D tys N0 av wc) (nQ D N0 wc Pw) kc kn (va_A wc N0)
theorem nX.moved {u U : State} (hvm : u.vm.Alike U.vm) (h : nX u) : nX U := ⟨h.1.moved hvm, fun a => arrayOver_alikeB hvm (h.2.1 #[]), fun a => arrayOver_alikeB hvm (h.2.2 #[])⟩
theorem nPre_blind {D : va_G} {tys : List (ClassId × FieldType)} {N0 : Nat} {av : List Value} {wc : va_W} : FrameBlind (nPre D tys N0 av wc) := by
  intro a U g mk h
  obtain ⟨h0, h1, h2, h3, h4, h5, h6⟩ := h
  exact ⟨h0, tk_warm (s := U) (U := U.calling g mk a) (State.WarmedH.refl U) h1, va_K.moved (u := U) (U := U.calling g mk a) (Vm.Alike.refl U.vm) h2, h3, h4, nX.moved (u := U) (U := U.calling g mk a) (Vm.Alike.refl U.vm) h5, h6⟩
theorem nMet_of {l : Launch} {y : MethodName} {cc : ByteArray} {n : Nat} {rm : Room} {D : va_G} {tys : List (ClassId × FieldType)} {N0 : Nat} {av : List Value} {wc : va_W} {Pw : va_W → Prop} {kc kn : Nat} (hy : plainName y.cls = true) (hn : (lg_sl av).length ≤ n)
    (body : ∀ p e s m below meth c, p.tables.exec = Jvm.exec → c.code = cc → meth.sig.returnType = none → s.vm.findClass y.cls = some m.cls → meth.locks = false → c.maxLocals = n → meth.name = y.name → tk s → va_K D vwCl tys s → va_P D vwCl wc s.heap → va_D (va_A wc N0) wc → va_S (va_A wc N0) s.heap s.heap [] → (∀ q, s.heap.size ≤ q → va_A wc N0 q) → nX s →
      ∀ ls : Array Slot, lv_has ls n (lv_args 0 av) → W p l e rm s m av.toArray below meth c s.heap [] 0 0 (MQ below (nQ D N0 wc Pw) av.toArray s kc kn (va_A wc N0)) (F0 m 0 ls [])) : nMet l y cc n rm D tys N0 av wc Pw kc kn := by
  refine Met.ofW (cc := cc) (maxL := n) (ret := none) hy rfl ?_
  intro p e s m args below meth c s₁ B hml hv
  obtain ⟨rfl, h1, h2, h3, h4, h5, h6⟩ := hv
  have hl := lv_entry av (n := n) hn
  rw [lg_entry_eq]
  exact body p e s m below meth c B.exec B.bytes B.returns (findClass_of_methodNamed B.named) B.notSynchronized hml (name_of_methodNamed B.named B.method).1 h1 h2 h3 ⟨h4.1, fun k q hk => Or.inl ⟨k, q.2, hk⟩⟩ va_S.rf (fun q hq => Or.inr (by omega)) h5 _ hl
/-- the words of a call of a constructor -/
def nCI (own : String) (ix : Nat) (y : MethodName) (cc : ByteArray) (n : Nat) : Prop :=
  Cond.methodLink own ix y ∈ tbg ∧ Cond.instanceMethod y ∈ tbg ∧ Cond.initialized y.cls ∈ tbg ∧ Cond.code y cc n none ∈ tbg ∧ kBase y 0 ∧ y.name = "<init>"
def nCN (own host : String) (ix : Nat) (y : MethodName) (cc : ByteArray) (n : Nat) : Prop :=
  Cond.methodLinkNest own ix y host ∈ tbg ∧ Cond.instanceMethod y ∈ tbg ∧ Cond.initialized y.cls ∈ tbg ∧ Cond.code y cc n none ∈ tbg ∧ kBase y 0 ∧ y.name = "<init>"
section NC
variable {p : Program} {l : Launch} {e : Env} {R : Room} {s : State} {m : MethodId} {args : Array Value} {below : List Frame} {meth : Method} {c : Code} {H : Heap} {locs : List Loc} {cells slots : Nat} {Q : State → Prop}
variable {cc bytes : ByteArray} {pc maxL np ix kc kn N0 : Nat} {ls : Array Slot} {rest st0 av As : List Value} {own host : String} {y : MethodName} {rm : Room} {D : va_G} {tys : List (ClassId × FieldType)} {w wc wcC W0 wr : va_W} {Pw : va_W → Prop} {A : Nat → Prop} {H0 : Heap}
theorem n_vret (hx : p.tables.exec = Jvm.exec) (hb : c.code = cc) (hr : meth.sig.returnType = none) (hlk : meth.locks = false) (hP : va_P D vwCl w H) (hD : va_D (va_A wc N0) w) (hS : va_S (va_A wc N0) s.heap H locs) (hdg : decode cc pc = .ok (.return_, 1)) (h : Pw w) (h1 : cells = kc) (h2 : slots = kn) :
    W p l e R s m args below meth c H locs cells slots (MQ below (nQ D N0 wc Pw) args s kc kn (va_A wc N0)) (F0 m pc ls []) := by
  subst h1; subst h2
  exact W.vret hx hb hr (fun t ht _ => ⟨rfl, ⟨w, h, by rw [ht]; exact hP, hD⟩, hS.F ht⟩) hS.2.2 hdg hlk
theorem n_obj {a : Nat} (hx : p.tables.exec = Jvm.exec) (hb : c.code = cc) (hml : c.maxLocals = ls.size) (hown : s.vm.findClass own = some m.cls) (hk : tk s) (h1 : Cond.methodLink own ix Lib.objectInit ∈ tbg) (h2 : Cond.instanceMethod Lib.objectInit ∈ tbg) (h3 : Cond.code Lib.objectInit ⟨#[0xb1]⟩ 1 none ∈ tbg) (hf : 1 ≤ R.frames) (hlo : (rest.map fun v => v.category).sum + 12 ≤ R.locals) (hdg : decode cc pc = .ok (.invokespecial ix, 3))
    (kk : W p l e R s m args below meth c H locs cells slots Q (F0 m (pc + 3) ls rest)) : W p l e R s m args below meth c H locs cells slots Q (F0 m pc ls (.ref a :: rest)) :=
  W.objInit hx hb hown (hk _ h1 args) (hk _ h2 args) (hk _ h3 args) (g := F0 m pc ls (.ref a :: rest)) rfl hml.symm rfl hdg hf (by simpa [F0, JFrame.monitorRoom] using hlo) kk
theorem n_pre (hk : tk s) (hK : va_K D vwCl tys s) (hP : va_P D vwCl wc H) (hD : va_D (fun _ => True) wc) (hX : nX s) : ∀ U : State, U.heap = H → s.WarmedH U.vm → nPre D tys H.size av wc av.toArray U :=
  fun U hU hW => ⟨rfl, tk_warm hW hk, va_K.moved hW.alike hK, by rw [hU]; exact hP, hD, hX.moved hW.alike, by rw [hU]⟩
theorem n_run {a : Array Value} (hr : va_Run p l e R s m args below meth c H locs cells slots kc kn (F0 m pc ls st0) rest (nQ D H.size wcC Pw a) (va_A wcC H.size)) (hP : va_P D vwCl W0 H) (hD : va_D A W0) (hS : va_S A H0 H locs) (hA : ∀ q, H0.size ≤ q → A q)
    (isC isR : List Nat) (hC : isC.map (fun i => W0[i]?) = wcC.map some) (hR : isR.map (fun i => W0[i]?) = wr.map some) (hn : va_nd isR = true) (hdis : ∀ i ∈ isR, i ∉ isC)
    (kk : ∀ (w1 : va_W) (H1 : Heap) (locs1 : List Loc), Pw w1 → va_P D vwCl (wr ++ w1) H1 → va_D A (wr ++ w1) → va_S A H0 H1 locs1 → W p l e R s m args below meth c H1 locs1 (cells + kc) (slots + kn) Q (F0 m (pc + 3) ls rest)) : W p l e R s m args below meth c H locs cells slots Q (F0 m pc ls st0) := by
  intro T hT X0
  obtain ⟨v, st₀, t, T', L, h0, X', hL, e1, e2, ⟨hv, ⟨w1, hpw, hp, hd⟩, ⟨hz, hkp⟩⟩, st⟩ := hr T hT X0
  cases hv
  rw [h0] at hz hkp
  have hF := va_free hD hS hA isC hC
  obtain ⟨j1, j2⟩ := va_join hP hD isC isR hC hR hn hdis hkp hF hp hd
  obtain ⟨t2, a1, b1⟩ := kk w1 T'.heap (locs ++ L) hpw (by rw [e1]; exact j1) j2
    ⟨Nat.le_trans hS.1 (by rw [e1]; exact hz), fun q h1 h2 => by rw [e1, hkp q (Nat.lt_of_lt_of_le h1 hS.1) (fun z => h2 (hF q z))]; exact hS.2.1 q h1 h2, fun q hq => by
      rcases List.mem_append.mp hq with h | h
      · exact hS.2.2 q h
      · exact hF _ (hL q h)⟩ T' rfl X'
  exact ⟨t2, st t2 a1, b1⟩
theorem n_callI {b : Addr} (hx : p.tables.exec = Jvm.exec) (hb : c.code = cc) (hml : c.maxLocals = ls.size) (hown : s.vm.findClass own = some m.cls) (hk : tk s) (hK : va_K D vwCl tys s) (hX : nX s) (K : nCI own ix y bytes maxL) (hM : nMet l y bytes maxL rm D tys H.size [.ref b] wcC Pw kc kn)
    (hP : va_P D vwCl W0 H) (hD : va_D A W0) (hS : va_S A H0 H locs) (hA : ∀ q, H0.size ≤ q → A q) (isC isR : List Nat) (hC : isC.map (fun i => W0[i]?) = wcC.map some) (hR : isR.map (fun i => W0[i]?) = wr.map some) (hnC : va_nd isC = true) (hn : va_nd isR = true) (hdis : ∀ i ∈ isR, i ∉ isC)
    (hst : st0 = .ref b :: rest) (hrm : rm.cells = kc ∧ rm.slots = kn) (hRm : kR R rm maxL cells slots) (hcat : (rest.map fun v => v.category).sum ≤ 8) (hdg : decode cc pc = .ok (.invokespecial ix, 3))
    (kk : ∀ (w1 : va_W) (H1 : Heap) (locs1 : List Loc), Pw w1 → va_P D vwCl (wr ++ w1) H1 → va_D A (wr ++ w1) → va_S A H0 H1 locs1 → W p l e R s m args below meth c H1 locs1 (cells + kc) (slots + kn) Q (F0 m (pc + 3) ls rest)) : W p l e R s m args below meth c H locs cells slots Q (F0 m pc ls st0) := by
  obtain ⟨k1, k2, k3, k4, k5, k6⟩ := K
  obtain ⟨r1, r2, r3, r4⟩ := hRm
  rw [hrm.1] at r3
  rw [hrm.2] at r4
  have hPc := w_subP hP hC
  have hDc : va_D (fun _ => True) wcC := w_subD hD hC hnC
  exact n_run (a := (Value.ref b :: ([] : List Value)).toArray) (va_runI (Ts := []) (As := []) ⟨hx, hb, hml, hown, fun w h => by cases h⟩ hM ⟨⟨hrm.1, hrm.2, r1, r2, k_ws hk k4, List.mem_cons_self, hk _ k4 args, hk _ k3 args, ⟨k5.1, k5.2.1⟩, k_len k5, hk _ k1 args⟩, k6, hk _ k2 args⟩ ⟨nPre_blind, n_pre hk hK hPc hDc hX⟩ rfl rfl rfl hst (lv_room hcat) hdg ⟨r3, r4⟩) hP hD hS hA isC isR hC hR hn hdis kk
theorem n_callIN {b : Addr} (hx : p.tables.exec = Jvm.exec) (hb : c.code = cc) (hml : c.maxLocals = ls.size) (hown : s.vm.findClass own = some m.cls) (hk : tk s) (hK : va_K D vwCl tys s) (hX : nX s) (K : nCN own host ix y bytes maxL) (hM : nMet l y bytes maxL rm D tys H.size [.ref b] wcC Pw kc kn)
    (hP : va_P D vwCl W0 H) (hD : va_D A W0) (hS : va_S A H0 H locs) (hA : ∀ q, H0.size ≤ q → A q) (isC isR : List Nat) (hC : isC.map (fun i => W0[i]?) = wcC.map some) (hR : isR.map (fun i => W0[i]?) = wr.map some) (hnC : va_nd isC = true) (hn : va_nd isR = true) (hdis : ∀ i ∈ isR, i ∉ isC)
    (hst : st0 = .ref b :: rest) (hrm : rm.cells = kc ∧ rm.slots = kn) (hRm : kR R rm maxL cells slots) (hcat : (rest.map fun v => v.category).sum ≤ 8) (hdg : decode cc pc = .ok (.invokespecial ix, 3))
    (kk : ∀ (w1 : va_W) (H1 : Heap) (locs1 : List Loc), Pw w1 → va_P D vwCl (wr ++ w1) H1 → va_D A (wr ++ w1) → va_S A H0 H1 locs1 → W p l e R s m args below meth c H1 locs1 (cells + kc) (slots + kn) Q (F0 m (pc + 3) ls rest)) : W p l e R s m args below meth c H locs cells slots Q (F0 m pc ls st0) := by
  obtain ⟨k1, k2, k3, k4, k5, k6⟩ := K
  obtain ⟨r1, r2, r3, r4⟩ := hRm
  rw [hrm.1] at r3
  rw [hrm.2] at r4
  have hPc := w_subP hP hC
  have hDc : va_D (fun _ => True) wcC := w_subD hD hC hnC
  exact n_run (a := (Value.ref b :: ([] : List Value)).toArray) (va_runIN (host := host) (Ts := []) (As := []) ⟨hx, hb, hml, hown, fun w h => by cases h⟩ hM ⟨⟨⟨hrm.1, hrm.2, r1, r2, k_ws hk k4, List.mem_cons_self⟩, hk _ k4 args, hk _ k3 args, ⟨k5.1, k5.2.1⟩, k_len k5, hk _ k1 args⟩, k6, hk _ k2 args⟩ ⟨nPre_blind, n_pre hk hK hPc hDc hX⟩ rfl rfl rfl hst (lv_room hcat) hdg ⟨r3, r4⟩) hP hD hS hA isC isR hC hR hn hdis kk
/-- a new array of a primitive type, its class known by now -/
theorem n_newa {atype : ArrayType} {ty : FieldType} {cT : ClassId} {k0 : Nat} (hx : p.tables.exec = Jvm.exec) (hb : c.code = cc) (hk : tk s) (harr : Cond.arrayClass (newarray.typeOf atype) ∈ tbg) (hty : newarray.typeOf atype = ty) (hK : va_K D vwCl tys s) (ht : tys[k0]? = some (cT, ty)) (hRA : ∀ cA, va_RA s cA ty → va_RA s cT ty → cA = cT) (hP : va_P D vwCl W0 H) (hD : va_D A W0) (hS : va_S A H0 H locs) (hA : ∀ q, H0.size ≤ q → A q)
    {n : Int32} {N' : Nat} {a0 : vp_A} (ha : ∀ cA : ClassId, vp_cell cA a0 = arrV cA N' (fun _ => defaultValue ty)) (hn : ¬ n < 0) (hN : n.toNatClampNeg = N') (hbytes : N' * componentBytes ty ≤ 536870912) (hcells : cells + 1 ≤ R.cells) (hslots : slots + N' ≤ R.slots) (hdg : decode cc pc = .ok (.newarray atype, 2))
    (kk : ∀ (q : Nat) (H1 : Heap), va_P D vwCl (W0 ++ [(q, .inl (cT, a0))]) H1 → va_D A (W0 ++ [(q, .inl (cT, a0))]) → va_S A H0 H1 locs → W p l e R s m args below meth c H1 locs (cells + 1) (slots + N') Q (F0 m (pc + 2) ls (.ref q :: rest))) : W p l e R s m args below meth c H locs cells slots Q (F0 m pc ls (.int n :: rest)) := by
  refine va_newa hx hb (hk _ harr args) hty hK hP hD hS hA ha hn hN hbytes hcells hslots hdg (fun q cA H1 hK1 hP1 hD1 hS1 => ?_)
  have e : cA = cT := hRA cA (hK1.2 tys.length (cA, ty) (by rw [List.getElem?_append_right (Nat.le_refl _), Nat.sub_self]; rfl)).2 (hK.2 k0 _ ht).2
  subst e
  exact kk q H1 hP1 hD1 hS1
/-- a new array of zones -/
theorem n_newq {cT : ClassId} {k0 : Nat} (hx : p.tables.exec = Jvm.exec) (hb : c.code = cc) (hk : tk s) (hX : nX s) (hown : s.vm.findClass own = some m.cls) (hcl : Cond.classLink own ix "ZoneClock$Zone" ∈ tbg) (hK : va_K D vwCl tys s) (ht : tys[k0]? = some (cT, .object "ZoneClock$Zone")) (hP : va_P D vwCl W0 H) (hD : va_D A W0) (hS : va_S A H0 H locs) (hA : ∀ q, H0.size ≤ q → A q)
    {n : Int32} {N' : Nat} (hn : ¬ n < 0) (hN : n.toNatClampNeg = N') (hbytes : N' * 4 ≤ 536870912) (hcells : cells + 1 ≤ R.cells) (hslots : slots + N' ≤ R.slots) (hdg : decode cc pc = .ok (.anewarray ix, 3))
    (kk : ∀ (q : Nat) (H1 : Heap), va_P D vwCl (W0 ++ [(q, .inl (cT, N', .inr (.inr (.inr (.inr (fun _ => none))))))]) H1 → va_D A (W0 ++ [(q, .inl (cT, N', .inr (.inr (.inr (.inr (fun _ => none))))))]) → va_S A H0 H1 locs → W p l e R s m args below meth c H1 locs (cells + 1) (slots + N') Q (F0 m (pc + 3) ls (.ref q :: rest))) : W p l e R s m args below meth c H locs cells slots Q (F0 m pc ls (.int n :: rest)) := by
  refine va_newq hx hb hown (hk _ hcl args) hX.1 hK hP hD hS hA hn hN hbytes hcells hslots hdg (fun q cA H1 hK1 hP1 hD1 hS1 => ?_)
  have e : cA = cT := by
    obtain ⟨_, _, _, _, _, h1⟩ := (hK1.2 tys.length (cA, .object "ZoneClock$Zone") (by rw [List.getElem?_append_right (Nat.le_refl _), Nat.sub_self]; rfl)).2
    obtain ⟨_, _, _, _, _, h2⟩ := (hK.2 k0 _ ht).2
    exact Option.some.inj (h1.symm.trans h2)
  subst e
  exact kk q H1 hP1 hD1 hS1
end NC
theorem n_ra {s : State} {ty : FieldType} {cA cT : ClassId} (h : ∀ C, ty ≠ .object C) (h1 : va_RA s cA ty) (h2 : va_RA s cT ty) : cA = cT := by
  cases ty with
  | object C => exact absurd rfl (h C)
  | _ => exact Option.some.inj (h1.symm.trans h2)
theorem arrV_cong {cA : ClassId} {N : Nat} {f g : Nat → Value} (h : ∀ j, j < N → f j = g j) : arrV cA N f = arrV cA N g := by
  unfold arrV
  have e : (fun j : Fin N => f j.val) = fun j : Fin N => g j.val := funext fun j => h j.val j.isLt
  rw [e]
theorem outer_arr (cA : ClassId) (N h0 : Nat) : ∀ i, Jvm.Free.Multi.outerC cA N h0 i = arrV cA N (fun j => if j < i then .ref (h0 + 1 + j) else .null)
  | 0 => by
    show ({ cls := cA, slots := Array.replicate N .null, vm := .none } : Cell) = _
    rw [arrV_new]
    exact arrV_cong (fun j _ => by simp)
  | i + 1 => by
    show (Jvm.Free.Multi.outerC cA N h0 i).setSlot i (.ref (h0 + 1 + i)) = _
    rw [outer_arr cA N h0 i, arrV_store]
    refine arrV_cong (fun j _ => ?_)
    unfold updV
    by_cases e : j = i
    · subst e; simp
    · by_cases q : j < i
      · simp [e, q, show j < i + 1 from by omega]
      · simp [e, q, show ¬ j < i + 1 from by omega]
theorem va_D_row {q : Nat} {w2 : va_W} (h : ∀ (k : Nat) (x : Nat × va_E), w2[k]? = some x → x.1 = q + k) : va_D (fun a => q ≤ a) w2 :=
  ⟨fun i j x y hi hj e => by have h1 := h i x hi; have h2 := h j y hj; omega, fun k x hk => by have := h k x hk; show q ≤ x.1; omega⟩
section NM
variable {p : Program} {l : Launch} {e : Env} {R : Room} {s : State} {m : MethodId} {args : Array Value} {below : List Frame} {meth : Method} {c : Code} {H : Heap} {locs : List Loc} {cells slots : Nat} {Q : State → Prop}
variable {cc : ByteArray} {pc ix : Nat} {ls : Array Slot} {rest : List Value} {own : String} {D : va_G} {tys : List (ClassId × FieldType)} {W0 : va_W} {A : Nat → Prop} {H0 : Heap}
/-- a new array of arrays -/
theorem n_multi {ty : FieldType} {cT cTT : ClassId} {k0 k1 : Nat} (hx : p.tables.exec = Jvm.exec) (hb : c.code = cc) (hk : tk s) (hown : s.vm.findClass own = some m.cls) (hcl : Cond.classLink own ix ("[" ++ (FieldType.array ty).toString) ∈ tbg) (hover : (Cond.arrayOver (.array ty)).before args s = true) (harr : Cond.arrayClass ty ∈ tbg)
    (hK : va_K D vwCl tys s) (ht : tys[k0]? = some (cT, ty)) (htt : tys[k1]? = some (cTT, .array ty)) (hnm : ∀ cA, va_RA s cA ty → s.vm.findClass (FieldType.array ty).toString = some cA) (hP : va_P D vwCl W0 H) (hD : va_D A W0) (hS : va_S A H0 H locs) (hA : ∀ q, H0.size ≤ q → A q)
    {n k : Int32} {N M : Nat} {a0 : vp_A} (ha : ∀ cA : ClassId, vp_cell cA a0 = arrV cA M (fun _ => defaultValue ty)) (hn : ¬ n < 0) (hk' : ¬ k < 0) (hN : n.toNatClampNeg = N) (hM : k.toNatClampNeg = M) (hb1 : N * 4 ≤ 536870912) (hb2 : M * componentBytes ty ≤ 536870912) (hb3 : M ≤ 536870912) (hdf : fits ty (defaultValue ty) = true) (hdd : (defaultValue ty).isDefault = true)
    (hcells : cells + (1 + N) ≤ R.cells) (hslots : slots + (N + N * M) ≤ R.slots) (hdg : decode cc pc = .ok (.multianewarray ix 2, 4))
    (kk : ∀ (q : Nat) (H1 : Heap), va_P D vwCl (W0 ++ ((q, .inl (cTT, N, .inr (.inr (.inr (.inr (fun j => some (q + 1 + j))))))) :: (List.range N).map (fun j => (q + 1 + j, .inl (cT, a0))))) H1 → va_D A (W0 ++ ((q, .inl (cTT, N, .inr (.inr (.inr (.inr (fun j => some (q + 1 + j))))))) :: (List.range N).map (fun j => (q + 1 + j, .inl (cT, a0))))) → va_S A H0 H1 locs →
      W p l e R s m args below meth c H1 locs (cells + 1 + N) (slots + N + N * M) Q (F0 m (pc + 4) ls (.ref q :: rest))) : W p l e R s m args below meth c H locs cells slots Q (F0 m pc ls (.int k :: .int n :: rest)) := by
  subst hN; subst hM
  intro T hT X0
  subst hb
  obtain ⟨vm₁, cA, comp, hW1, hfA, hfC, -, -, X1, step⟩ := X0.multianewarray2F hx hown (hk _ hcl args) hover (hk _ harr args) (g := F0 m pc ls (.int k :: .int n :: rest)) rfl hdg rfl hn hk' hb1 hb2 hb3 hdf hdd hcells hslots
  have e1 : cA = cTT := Option.some.inj (hfA.symm.trans (show s.vm.findClass ("[" ++ (FieldType.array ty).toString) = some cTT from (hK.2 k1 _ htt).2))
  have e2 : comp = cT := Option.some.inj (hfC.symm.trans (hnm cT (hK.2 k0 _ ht).2))
  subst e1; subst e2
  have f := Jvm.Free.Multi.fill_facts (T.setVm vm₁) cA comp n.toNatClampNeg k.toNatClampNeg (defaultValue ty) n.toNatClampNeg
  have hsz : (T.setVm vm₁).heap.size = H.size := by show T.heap.size = H.size; rw [hT]
  have fo : ∀ q : Nat, q < H.size → (Jvm.Free.Multi.fill (T.setVm vm₁) cA comp n.toNatClampNeg k.toNatClampNeg (defaultValue ty) n.toNatClampNeg).heap[q]? = H[q]? := fun q hq => by
    rw [Jvm.Free.Multi.fill_old (T.setVm vm₁) cA comp n.toNatClampNeg k.toNatClampNeg (defaultValue ty) (a := q) (by rw [hsz]; exact hq)]
    show T.heap[q]? = H[q]?
    rw [hT]
  have fi := Jvm.Free.Multi.fill_inner (T.setVm vm₁) cA comp n.toNatClampNeg k.toNatClampNeg (defaultValue ty) n.toNatClampNeg
  rw [hsz] at f fi
  have hrow : ∀ (j : Nat) (x : Nat × va_E), (((H.size, .inl (cA, n.toNatClampNeg, .inr (.inr (.inr (.inr (fun j => some (H.size + 1 + j))))))) :: (List.range n.toNatClampNeg).map (fun j => (H.size + 1 + j, .inl (comp, a0)))) : va_W)[j]? = some x → x.1 = H.size + j ∧ va_at D vwCl x (Jvm.Free.Multi.fill (T.setVm vm₁) cA comp n.toNatClampNeg k.toNatClampNeg (defaultValue ty) n.toNatClampNeg).heap := by
    intro j x hj
    cases j with
    | zero =>
      cases hj
      refine ⟨rfl, ?_⟩
      show (Jvm.Free.Multi.fill (T.setVm vm₁) cA comp n.toNatClampNeg k.toNatClampNeg (defaultValue ty) n.toNatClampNeg).heap[H.size]? = some (vp_cell _ _)
      rw [f.2.1, outer_arr, vp_cell_q]
      exact congrArg some (arrV_cong (fun j hj => by rw [if_pos hj]; rfl))
    | succ j =>
      rw [List.getElem?_cons_succ, List.getElem?_map] at hj
      cases hr : (List.range n.toNatClampNeg)[j]? with
      | none => rw [hr] at hj; cases hj
      | some i =>
        rw [hr] at hj
        cases hj
        obtain ⟨hlt, hi⟩ := List.getElem?_eq_some_iff.mp hr
        rw [List.getElem_range] at hi
        subst hi
        rw [List.length_range] at hlt
        refine ⟨by show H.size + 1 + j = H.size + (j + 1); omega, ?_⟩
        show (Jvm.Free.Multi.fill (T.setVm vm₁) cA comp n.toNatClampNeg k.toNatClampNeg (defaultValue ty) n.toNatClampNeg).heap[H.size + 1 + j]? = some (vp_cell _ _)
        rw [fi j hlt, ha]
        show some ({ cls := comp, slots := Array.replicate k.toNatClampNeg (defaultValue ty), vm := .none } : Cell) = _
        rw [arrV_new]
  obtain ⟨t, a1, b1⟩ := kk H.size _ ((hP.kept (fun j x hx => fo x.1 ((hP j x hx).lt))).app (fun j x hx => (hrow j x hx).2))
    (va_D.app hD ((va_D_row (fun j x hx => (hrow j x hx).1)).weaken (fun _ x _ h => hA x.1 (Nat.le_trans hS.1 h))) (fun i j x y hx hy hxy => by have h1 := (hP i x hx).lt; have h2 := (hrow j y hy).1; omega))
    ⟨Nat.le_trans hS.1 (by rw [f.1]; omega), fun q h1 h2 => (fo q (Nat.lt_of_lt_of_le h1 hS.1)).trans (hS.2.1 q h1 h2), hS.2.2⟩ _ rfl X1
  refine ⟨t, step t ?_, b1⟩
  rw [hT]
  exact a1
end NM
section NF
variable {p : Program} {l : Launch} {e : Env} {R : Room} {s : State} {m : MethodId} {args : Array Value} {below : List Frame} {meth : Method} {c : Code} {H : Heap} {locs : List Loc} {cells slots : Nat} {Q : State → Prop}
variable {cc : ByteArray} {pc ix ci N k a : Nat} {ls : Array Slot} {rest : List Value} {own host ref C : String} {T : u_T} {D : va_G} {A : Nat → Prop} {tys : List (ClassId × FieldType)} {ws : va_W} {H0 : Heap} {fs : List Value} {v : Value} {ty : Nat → FieldType}
theorem g_putF (hx : p.tables.exec = Jvm.exec) (hb : c.code = cc) (hk : tk s) (hown : s.vm.findClass own = some m.cls) (hK : va_K D vwCl tys s) (hP : va_P D vwCl ws H) (hD : va_D A ws) (hS : va_S A H0 H locs) (q0 : Nat) (he : ws[q0]? = some (a, .inr (ci, fs))) (F : fG own ix ref ci C T N k) (FT : fT T N ty) (hfin : (T k).2.2.2 = true) (hin2 : meth.name = "<init>") (hdecl : (T k).1 = own) (hn : narrow (ty k) v = v) (hfit : fits (ty k) v = true) (hl : k < fs.length) (hdg : decode cc pc = .ok (.putfield ix, 3))
    (kk : ∀ (H1 : Heap) (locs1 : List Loc), va_P D vwCl (ws.set q0 (a, .inr (ci, fs.set k v))) H1 → va_D A (ws.set q0 (a, .inr (ci, fs.set k v))) → va_S A H0 H1 locs1 → W p l e R s m args below meth c H1 locs1 cells slots Q (F0 m (pc + 3) ls rest)) : W p l e R s m args below meth c H locs cells slots Q (F0 m pc ls (v :: .ref a :: rest)) := by
  obtain ⟨h1, h2, h3, h4, h5⟩ := F
  exact va_putF (Ts := tbg) hx hb (fun w hw => hk w hw args) h3 ty FT.1 FT.2 hown hK hP hD hS q0 he h1 k h2 (hk _ h4 args) (fun x h => by rw [← h5]; exact h) hfin hin2 hdecl (FT.1 k h2) hn hfit hl hdg kk
theorem n_new {fs : List Value} (hx : p.tables.exec = Jvm.exec) (hb : c.code = cc) (hk : tk s) (hown : s.vm.findClass own = some m.cls) (hin : ∀ w ∈ u_ws C T N, w ∈ tbg) (FT : fT T N ty) (hcl : Cond.classLink own ix C ∈ tbg) (hinst : Cond.instantiable C N ∈ tbg) (hini : Cond.initialized C ∈ tbg) (hK : va_K D vwCl tys s) (hP : va_P D vwCl ws H) (hD : va_D A ws) (hS : va_S A H0 H locs) (hA : ∀ q, H0.size ≤ q → A q) (hc : vwCl[ci]? = some (C, T, N)) (hfs : ∀ j, j < N → defaultValue (ty j) = vp_V fs j) (hcells : cells + 1 ≤ R.cells) (hslots : slots + N ≤ R.slots) (hdg : decode cc pc = .ok (.new ix, 3))
    (kk : ∀ (q : Nat) (H1 : Heap), va_P D vwCl (ws ++ [(q, .inr (ci, fs))]) H1 → va_D A (ws ++ [(q, .inr (ci, fs))]) → va_S A H0 H1 locs → W p l e R s m args below meth c H1 locs (cells + 1) (slots + N) Q (F0 m (pc + 3) ls (.ref q :: rest))) : W p l e R s m args below meth c H locs cells slots Q (F0 m pc ls rest) :=
  va_new (Ts := tbg) hx hb (fun w hw => hk w hw args) hin ty FT.1 hown (hk _ hcl args) (hk _ hinst args) (hk _ hini args) hK hP hD hS hA hc hfs hcells hslots hdg kk
end NF
theorem n_cong {D : va_G} {ws : va_W} {H : Heap} {q0 a n : Nat} {cA : ClassId} {f g : Nat → Option Nat} (hP : va_P D vwCl ws H) (he : ws[q0]? = some (a, .inl (cA, n, .inr (.inr (.inr (.inr f)))))) (h : ∀ j, j < n → f j = g j) : va_P D vwCl (ws.set q0 (a, .inl (cA, n, .inr (.inr (.inr (.inr g)))))) H := by
  intro k x hx
  by_cases e : k = q0
  · subst e
    have hl : k < ws.length := (List.getElem?_eq_some_iff.mp he).1
    rw [List.getElem?_set_self hl] at hx
    cases hx
    have h0 := hP k _ he
    show H[a]? = some (vp_cell cA (n, .inr (.inr (.inr (.inr g)))))
    have h1 : H[a]? = some (vp_cell cA (n, .inr (.inr (.inr (.inr f))))) := h0
    rw [h1, vp_cell_q, vp_cell_q]
    exact congrArg some (arrV_cong (fun j hj => by rw [h j hj]))
  · rw [List.getElem?_set_ne (Ne.symm e)] at hx
    exact hP k x hx
theorem n_congD {A : Nat → Prop} {ws : va_W} {q0 a : Nat} {x y : va_E} (hD : va_D A ws) (he : ws[q0]? = some (a, x)) : va_D A (ws.set q0 (a, y)) := hD.set he
theorem def_Rule : ∀ j, j < 4 → defaultValue (ty_Rule j) = vp_V [.int (iI 0), .int (iI 0), .int (iI 0), .int (iI 0)] j := by
  intro j hj
  match j, hj with
  | 0, _ => rfl
  | 1, _ => rfl
  | 2, _ => rfl
  | 3, _ => rfl
theorem def_Tape : ∀ j, j < 4 → defaultValue (ty_Tape j) = vp_V [.null, .int (iI 0), .int (iI 0), .int (iI 0)] j := by
  intro j hj
  match j, hj with
  | 0, _ => rfl
  | 1, _ => rfl
  | 2, _ => rfl
  | 3, _ => rfl
theorem def_Zone : ∀ j, j < 4 → defaultValue (ty_Zone j) = vp_V [.int (iI 0), .int (iI 0), .null, .null] j := by
  intro j hj
  match j, hj with
  | 0, _ => rfl
  | 1, _ => rfl
  | 2, _ => rfl
  | 3, _ => rfl
theorem def_Clk : ∀ j, j < 4 → defaultValue (ty_Clk j) = vp_V [.null, .null, .null, .int (iI 0)] j := by
  intro j hj
  match j, hj with
  | 0, _ => rfl
  | 1, _ => rfl
  | 2, _ => rfl
  | 3, _ => rfl
theorem def_Ref : ∀ j, j < 15 → defaultValue (ty_Ref j) = vp_V [.int (iI 0), .null, .int (iI 0), .int (iI 0), .int (iI 0), .int (iI 0), .int (iI 0), .int (iI 0), .null, .null, .null, .null, .null, .null, .null] j := by
  intro j hj
  match j, hj with
  | 0, _ => rfl
  | 1, _ => rfl
  | 2, _ => rfl
  | 3, _ => rfl
  | 4, _ => rfl
  | 5, _ => rfl
  | 6, _ => rfl
  | 7, _ => rfl
  | 8, _ => rfl
  | 9, _ => rfl
  | 10, _ => rfl
  | 11, _ => rfl
  | 12, _ => rfl
  | 13, _ => rfl
  | 14, _ => rfl
