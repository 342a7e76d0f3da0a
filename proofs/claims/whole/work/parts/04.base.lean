/-! Contracts in one form: the claim's words at a state (tk), the world's cells, a definite answer; pure methods (the heap stays) and methods that write in their cells. -/
def wA (wc : va_W) (q : Nat) : Prop := ∃ (k : Nat) (e : va_E), wc[k]? = some (q, e)
def cPre (D : va_G) (tys : List (ClassId × FieldType)) (av : List Value) (wc : va_W) : Array Value → State → Prop :=
  va_Pc av (fun U => tk U ∧ va_K D vwCl tys U ∧ va_P D vwCl wc U.heap ∧ va_D (fun _ => True) wc)
theorem cPre_blind {D : va_G} {tys : List (ClassId × FieldType)} {av : List Value} {wc : va_W} : FrameBlind (cPre D tys av wc) := by
  intro a U g mk h
  obtain ⟨h0, h1, h2, h3, h4⟩ := h
  exact ⟨h0, tk_warm (s := U) (U := U.calling g mk a) (State.WarmedH.refl U) h1, va_K.moved (u := U) (U := U.calling g mk a) (Vm.Alike.refl U.vm) h2, h3, h4⟩
def pQ (v : Value) : Array Value → State → Outcome → State → Prop := fun _ st o t => o = .returned (some v) ∧ t.heap = st.heap
def mQ (D : va_G) (wc : va_W) (ans : Option Value) (w1 : va_W) : Array Value → State → Outcome → State → Prop := fun _ st o t => o = .returned ans ∧ va_P D vwCl w1 t.heap ∧ va_F (wA wc) st t
def pMet (l : Launch) (y : MethodName) (cc : ByteArray) (n : Nat) (r : Option FieldType) (rm : Room) (D : va_G) (tys : List (ClassId × FieldType)) (av : List Value) (wc : va_W) (v : Value) : Prop :=
  Met l y [Cond.code y cc n r] rm (cPre D tys av wc) (pQ v) 0 0 (fun _ => False)
def mMet (l : Launch) (y : MethodName) (cc : ByteArray) (n : Nat) (r : Option FieldType) (rm : Room) (D : va_G) (tys : List (ClassId × FieldType)) (av : List Value) (wc : va_W) (ans : Option Value) (w1 : va_W) : Prop :=
  Met l y [Cond.code y cc n r] rm (cPre D tys av wc) (mQ D wc ans w1) 0 0 (wA wc)
section CM
variable {l : Launch} {y : MethodName} {cc : ByteArray} {n : Nat} {r : Option FieldType} {rm : Room} {D : va_G} {tys : List (ClassId × FieldType)} {av : List Value} {wc w1 : va_W} {v : Value} {ans : Option Value}
theorem pMet_of (hy : plainName y.cls = true) (hn : (lg_sl av).length ≤ n)
    (body : ∀ p e s m below meth c, p.tables.exec = Jvm.exec → c.code = cc → meth.sig.returnType = r → s.vm.findClass y.cls = some m.cls → meth.locks = false → c.maxLocals = n → tk s → va_K D vwCl tys s → va_P D vwCl wc s.heap → va_D (fun _ => True) wc →
      ∀ ls : Array Slot, lv_has ls n (lv_args 0 av) → W p l e rm s m av.toArray below meth c s.heap [] 0 0 (MQ below (pQ v) av.toArray s 0 0 (fun _ => False)) (F0 m 0 ls [])) : pMet l y cc n r rm D tys av wc v := by
  refine Met.ofW (cc := cc) (maxL := n) (ret := r) hy rfl ?_
  intro p e s m args below meth c s₁ B hml hv
  obtain ⟨rfl, h1, h2, h3, h4⟩ := hv
  have hl := lv_entry av (n := n) hn
  rw [lg_entry_eq]
  exact body p e s m below meth c B.exec B.bytes B.returns (findClass_of_methodNamed B.named) B.notSynchronized hml h1 h2 h3 h4 _ hl
theorem mMet_of (hy : plainName y.cls = true) (hn : (lg_sl av).length ≤ n)
    (body : ∀ p e s m below meth c, p.tables.exec = Jvm.exec → c.code = cc → meth.sig.returnType = r → s.vm.findClass y.cls = some m.cls → meth.locks = false → c.maxLocals = n → tk s → va_K D vwCl tys s → va_P D vwCl wc s.heap → va_D (wA wc) wc → va_S (wA wc) s.heap s.heap [] →
      ∀ ls : Array Slot, lv_has ls n (lv_args 0 av) → W p l e rm s m av.toArray below meth c s.heap [] 0 0 (MQ below (mQ D wc ans w1) av.toArray s 0 0 (wA wc)) (F0 m 0 ls [])) : mMet l y cc n r rm D tys av wc ans w1 := by
  refine Met.ofW (cc := cc) (maxL := n) (ret := r) hy rfl ?_
  intro p e s m args below meth c s₁ B hml hv
  obtain ⟨rfl, h1, h2, h3, h4⟩ := hv
  have hl := lv_entry av (n := n) hn
  rw [lg_entry_eq]
  exact body p e s m below meth c B.exec B.bytes B.returns (findClass_of_methodNamed B.named) B.notSynchronized hml h1 h2 h3 ⟨h4.1, fun k q hk => ⟨k, q.2, hk⟩⟩ va_S.rf _ hl
end CM
section CR
variable {p : Program} {l : Launch} {e : Env} {R : Room} {s : State} {m : MethodId} {args : Array Value} {below : List Frame} {meth : Method} {c : Code} {H : Heap} {locs : List Loc} {cells slots : Nat} {Q : State → Prop}
variable {cc : ByteArray} {pc : Nat} {ls : Array Slot} {rest : List Value}
theorem p_iret {x z : Int} (hx : p.tables.exec = Jvm.exec) (hb : c.code = cc) (hr : meth.sig.returnType = some .int) (hlk : meth.locks = false) (hdg : decode cc pc = .ok (.ireturn, 1)) (h : x = z) :
    W p l e R s m args below meth c s.heap [] 0 0 (MQ below (pQ (.int (iI z))) args s 0 0 (fun _ => False)) (F0 m pc ls [.int (iI x)]) := by
  subst h
  exact W.iret hx hb hr (fun t ht _ => ⟨rfl, ht⟩) (fun _ h => by cases h) hdg hlk
theorem p_lret {x z : Int} (hx : p.tables.exec = Jvm.exec) (hb : c.code = cc) (hr : meth.sig.returnType = some .long) (hlk : meth.locks = false) (hdg : decode cc pc = .ok (.lreturn, 1)) (h : x = z) :
    W p l e R s m args below meth c s.heap [] 0 0 (MQ below (pQ (.long (lL z))) args s 0 0 (fun _ => False)) (F0 m pc ls [.long (lL x)]) := by
  subst h
  exact W.lret hx hb hr (fun t ht _ => ⟨rfl, ht⟩) (fun _ h => by cases h) hdg hlk
theorem zb_nar {x : Int} (h : x = 0 ∨ x = 1) : narrow .boolean (.int (iI x)) = .int (iI x) := by rcases h with rfl | rfl <;> rfl
theorem p_zret {x z : Int} (hx : p.tables.exec = Jvm.exec) (hb : c.code = cc) (hr : meth.sig.returnType = some .boolean) (hlk : meth.locks = false) (hdg : decode cc pc = .ok (.ireturn, 1)) (h : x = z) (h01 : x = 0 ∨ x = 1 := by omega) :
    W p l e R s m args below meth c s.heap [] 0 0 (MQ below (pQ (.int (iI z))) args s 0 0 (fun _ => False)) (F0 m pc ls [.int (iI x)]) := by
  subst h
  exact W.zret hx hb hr (zb_nar h01) (fun t ht _ => ⟨rfl, ht⟩) (fun _ h => by cases h) hdg hlk
theorem p_aret {q : Nat} {C : String} (hx : p.tables.exec = Jvm.exec) (hb : c.code = cc) (hr : meth.sig.returnType = some (.object C)) (hlk : meth.locks = false) (hdg : decode cc pc = .ok (.areturn, 1)) :
    W p l e R s m args below meth c s.heap [] 0 0 (MQ below (pQ (.ref q)) args s 0 0 (fun _ => False)) (F0 m pc ls [.ref q]) :=
  W.aret hx hb hr (Or.inl ⟨_, rfl⟩) (Or.inr ⟨_, rfl⟩) (fun t ht _ => ⟨rfl, ht⟩) (fun _ h => by cases h) hdg hlk
variable {D : va_G} {wc w w1 : va_W}
theorem m_vret (hx : p.tables.exec = Jvm.exec) (hb : c.code = cc) (hr : meth.sig.returnType = none) (hlk : meth.locks = false) (hP : va_P D vwCl w H) (hS : va_S (wA wc) s.heap H locs) (hdg : decode cc pc = .ok (.return_, 1)) (h : w = w1) :
    W p l e R s m args below meth c H locs 0 0 (MQ below (mQ D wc none w1) args s 0 0 (wA wc)) (F0 m pc ls []) := by
  subst h
  exact W.vret hx hb hr (fun t ht _ => ⟨rfl, by rw [ht]; exact hP, hS.F ht⟩) hS.2.2 hdg hlk
theorem m_iret {x z : Int} (hx : p.tables.exec = Jvm.exec) (hb : c.code = cc) (hr : meth.sig.returnType = some .int) (hlk : meth.locks = false) (hP : va_P D vwCl w H) (hS : va_S (wA wc) s.heap H locs) (hdg : decode cc pc = .ok (.ireturn, 1)) (h : w = w1) (h2 : x = z) :
    W p l e R s m args below meth c H locs 0 0 (MQ below (mQ D wc (some (.int (iI z))) w1) args s 0 0 (wA wc)) (F0 m pc ls [.int (iI x)]) := by
  subst h; subst h2
  exact W.iret hx hb hr (fun t ht _ => ⟨rfl, by rw [ht]; exact hP, hS.F ht⟩) hS.2.2 hdg hlk
theorem m_lret {x z : Int} (hx : p.tables.exec = Jvm.exec) (hb : c.code = cc) (hr : meth.sig.returnType = some .long) (hlk : meth.locks = false) (hP : va_P D vwCl w H) (hS : va_S (wA wc) s.heap H locs) (hdg : decode cc pc = .ok (.lreturn, 1)) (h : w = w1) (h2 : x = z) :
    W p l e R s m args below meth c H locs 0 0 (MQ below (mQ D wc (some (.long (lL z))) w1) args s 0 0 (wA wc)) (F0 m pc ls [.long (lL x)]) := by
  subst h; subst h2
  exact W.lret hx hb hr (fun t ht _ => ⟨rfl, by rw [ht]; exact hP, hS.F ht⟩) hS.2.2 hdg hlk
end CR
/-- cells put in place of others at the same addresses -/
def wset (W0 : va_W) : List Nat → va_W → va_W
  | i :: is, x :: xs => wset (W0.set i x) is xs
  | [], _ => W0
  | _ :: _, [] => W0
theorem wset_cases : ∀ (is : List Nat) (xs W0 : va_W) (k : Nat) (q : Nat × va_E), (wset W0 is xs)[k]? = some q → (∃ j : Nat, xs[j]? = some q ∧ is[j]? = some k) ∨ (W0[k]? = some q ∧ ∀ j : Nat, j < xs.length → is[j]? ≠ some k)
  | [], xs, W0, k, q, h => Or.inr ⟨by cases xs <;> exact h, fun j _ => by simp⟩
  | i :: is, [], W0, k, q, h => Or.inr ⟨h, fun j hj => by simp at hj⟩
  | i :: is, x :: xs, W0, k, q, h => by
    rcases wset_cases is xs (W0.set i x) k q h with ⟨j, h1, h2⟩ | ⟨h1, h2⟩
    · exact Or.inl ⟨j + 1, by simpa using h1, by simpa using h2⟩
    · by_cases e : i = k
      · subst e
        have hlt : i < W0.length := by
          have := (List.getElem?_eq_some_iff.mp h1).1
          simpa using this
        rw [List.getElem?_set_self hlt] at h1
        cases h1
        exact Or.inl ⟨0, rfl, rfl⟩
      · rw [List.getElem?_set_ne e] at h1
        refine Or.inr ⟨h1, fun j hj => ?_⟩
        cases j with
        | zero => simpa using e
        | succ j => simpa using h2 j (by simpa using hj)
theorem wset_fst : ∀ (is : List Nat) (xs W0 : va_W), (∀ (j i : Nat) (x : Nat × va_E), is[j]? = some i → xs[j]? = some x → (W0.map Prod.fst)[i]? = some x.1) → (wset W0 is xs).map Prod.fst = W0.map Prod.fst
  | [], xs, _, _ => by cases xs <;> rfl
  | _ :: _, [], _, _ => rfl
  | i :: is, x :: xs, W0, h => by
    have h0 : (W0.map Prod.fst)[i]? = some x.1 := h 0 i x rfl rfl
    have e : (W0.set i x).map Prod.fst = W0.map Prod.fst := by
      rw [List.map_set]
      refine List.ext_getElem? (fun k => ?_)
      by_cases hk : i = k
      · subst hk
        rw [List.getElem?_set_self (by have := (List.getElem?_eq_some_iff.mp h0).1; exact this), h0]
      · rw [List.getElem?_set_ne hk]
    show (wset (W0.set i x) is xs).map Prod.fst = _
    rw [wset_fst is xs (W0.set i x) (fun j i' x' h1 h2 => by rw [e]; exact h (j + 1) i' x' (by simpa using h1) (by simpa using h2)), e]
theorem va_D_fst {A : Nat → Prop} {ws ws' : va_W} (hD : va_D A ws) (h : ws'.map Prod.fst = ws.map Prod.fst) : va_D A ws' := by
  have key : ∀ (k : Nat) (q : Nat × va_E), ws'[k]? = some q → ∃ q0, ws[k]? = some q0 ∧ q0.1 = q.1 := by
    intro k q hk
    have h1 : (ws'.map Prod.fst)[k]? = some q.1 := by rw [List.getElem?_map, hk]; rfl
    rw [h, List.getElem?_map] at h1
    cases hq : ws[k]? with
    | none => rw [hq] at h1; cases h1
    | some q0 => rw [hq] at h1; exact ⟨q0, rfl, Option.some.inj h1⟩
  refine ⟨fun i j x y hi hj hxy => ?_, fun k q hk => ?_⟩
  · obtain ⟨x0, h1, h2⟩ := key i x hi
    obtain ⟨y0, h3, h4⟩ := key j y hj
    exact hD.1 i j x0 y0 h1 h3 (h2.trans (hxy.trans h4.symm))
  · obtain ⟨q0, h1, h2⟩ := key k q hk
    rw [← h2]; exact hD.2 k q0 h1
theorem wat {is : List Nat} {ws w : va_W} (h : is.map (fun i => ws[i]?) = w.map some) (k : Nat) (q : Nat × va_E) (hq : w[k]? = some q) : ∃ i, is[k]? = some i ∧ ws[i]? = some q := by
  have h1 : (is.map (fun i => ws[i]?))[k]? = some (some q) := by rw [h, List.getElem?_map, hq]; rfl
  rw [List.getElem?_map] at h1
  cases hi : is[k]? with
  | none => rw [hi] at h1; cases h1
  | some i => rw [hi] at h1; exact ⟨i, rfl, Option.some.inj h1⟩
theorem wcut {is : List Nat} {ws w : va_W} (h : is.map (fun i => ws[i]?) = w.map some) : is.filterMap (fun i => ws[i]?) = w := by
  induction is generalizing w with
  | nil => cases w with
    | nil => rfl
    | cons a b => cases h
  | cons i is ih => cases w with
    | nil => cases h
    | cons a b =>
      simp only [List.map_cons, List.cons.injEq] at h
      rw [List.filterMap_cons, h.1, ih h.2]
/-- behind a call that wrote in its cells -/
theorem wjoin {A : Nat → Prop} {D : va_G} {W0 wc w1 : va_W} {H H1 : Heap} {is : List Nat} (hP : va_P D vwCl W0 H) (hD : va_D A W0) (hC : is.map (fun i => W0[i]?) = wc.map some) (hf : w1.map Prod.fst = wc.map Prod.fst)
    (hk : ∀ q : Nat, q < H.size → ¬ wA wc q → H1[q]? = H[q]?) (hP1 : va_P D vwCl w1 H1) : va_P D vwCl (wset W0 is w1) H1 ∧ va_D A (wset W0 is w1) := by
  have hlen : w1.length = wc.length := by simpa using congrArg List.length hf
  have hlen2 : is.length = wc.length := by simpa using congrArg List.length hC
  refine ⟨fun k q hq => ?_, va_D_fst hD (wset_fst is w1 W0 (fun j i x h1 h2 => ?_))⟩
  · rcases wset_cases is w1 W0 k q hq with ⟨j, h1, -⟩ | ⟨h1, h2⟩
    · exact hP1 j q h1
    · have hl := (hP k q h1).lt
      refine (hP k q h1).kept (hk q.1 hl ?_)
      rintro ⟨j, ee, hj⟩
      obtain ⟨i, g1, g2⟩ := wat hC j (q.1, ee) hj
      have hik := hD.1 k i q (q.1, ee) h1 g2 rfl
      subst hik
      exact h2 j (by rw [hlen]; exact (List.getElem?_eq_some_iff.mp hj).1) g1
  · have e1 : (wc.map Prod.fst)[j]? = some x.1 := by rw [← hf, List.getElem?_map, h2]; rfl
    rw [List.getElem?_map] at e1
    cases hj : wc[j]? with
    | none => rw [hj] at e1; cases e1
    | some x0 =>
      rw [hj] at e1
      obtain ⟨i2, g1, g2⟩ := wat hC j x0 hj
      cases h1.symm.trans g1
      rw [List.getElem?_map, g2]
      exact e1
section CC
variable {p : Program} {l : Launch} {e : Env} {R : Room} {s : State} {m : MethodId} {args : Array Value} {below : List Frame} {meth : Method} {c : Code} {H : Heap} {locs : List Loc} {cells slots : Nat} {Q : State → Prop}
variable {cc : ByteArray} {pc : Nat} {ls : Array Slot} {rest st0 : List Value} {a : Array Value}
theorem p_run {v : Value} (hr : va_Run p l e R s m args below meth c H locs cells slots 0 0 (F0 m pc ls st0) rest (pQ v a) (fun _ => False))
    (kk : W p l e R s m args below meth c H locs cells slots Q (F0 m (pc + 3) ls (v :: rest))) : W p l e R s m args below meth c H locs cells slots Q (F0 m pc ls st0) := by
  intro T hT X
  obtain ⟨v', st₀, t, T', L, h0, X', hL, e1, e2, ⟨hv, hp⟩, st⟩ := hr T hT X
  cases hv
  have hL0 : L = [] := List.eq_nil_iff_forall_not_mem.mpr (fun q hq => hL q hq)
  subst hL0
  rw [List.append_nil] at X'
  obtain ⟨t2, a1, b1⟩ := kk T' (by rw [e1, hp, h0]) X'
  exact ⟨t2, st t2 a1, b1⟩
variable {D : va_G} {A : Nat → Prop} {H0 : Heap} {W0 wc w1 : va_W}
theorem m_run {ans : Option Value} (hr : va_Run p l e R s m args below meth c H locs cells slots 0 0 (F0 m pc ls st0) rest (mQ D wc ans w1 a) (wA wc)) (hP : va_P D vwCl W0 H) (hD : va_D A W0) (hS : va_S A H0 H locs)
    (is : List Nat) (hC : is.map (fun i => W0[i]?) = wc.map some) (hf : w1.map Prod.fst = wc.map Prod.fst)
    (kk : ∀ (H1 : Heap) (locs1 : List Loc), va_P D vwCl (wset W0 is w1) H1 → va_D A (wset W0 is w1) → va_S A H0 H1 locs1 → W p l e R s m args below meth c H1 locs1 cells slots Q (F0 m (pc + 3) ls (ans.toList ++ rest))) : W p l e R s m args below meth c H locs cells slots Q (F0 m pc ls st0) := by
  intro T hT X
  obtain ⟨v', st₀, t, T', L, h0, X', hL, e1, e2, ⟨hv, hp, hz, hk⟩, st⟩ := hr T hT X
  cases hv
  rw [h0] at hz hk
  have hA : ∀ q, wA wc q → A q := by
    rintro q ⟨k, ee, h⟩
    obtain ⟨i, -, g⟩ := wat hC k (q, ee) h
    exact hD.2 i (q, ee) g
  obtain ⟨j1, j2⟩ := wjoin hP hD hC hf hk hp
  obtain ⟨t2, a1, b1⟩ := kk T'.heap (locs ++ L) (by rw [e1]; exact j1) j2
    ⟨Nat.le_trans hS.1 (by rw [e1]; exact hz), fun q h1 h2 => by rw [e1, hk q (Nat.lt_of_lt_of_le h1 hS.1) (fun z => h2 (hA q z))]; exact hS.2.1 q h1 h2, fun q hq => by
      rcases List.mem_append.mp hq with h | h
      · exact hS.2.2 q h
      · exact hA _ (hL q h)⟩ T' rfl X'
  exact ⟨t2, st t2 a1, b1⟩
end CC
