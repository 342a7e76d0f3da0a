/-! Pure methods without an answer; the words of the exceptions; the answers of the class. -/
def pQ0 : Array Value → State → Outcome → State → Prop := fun _ st o t => o = .returned none ∧ t.heap = st.heap
def vMet (l : Launch) (y : MethodName) (cc : ByteArray) (n : Nat) (r : Option FieldType) (rm : Room) (D : va_G) (tys : List (ClassId × FieldType)) (av : List Value) (wc : va_W) : Prop :=
  Met l y [Cond.code y cc n r] rm (cPre D tys av wc) pQ0 0 0 (fun _ => False)
theorem vMet_of {l : Launch} {y : MethodName} {cc : ByteArray} {n : Nat} {r : Option FieldType} {rm : Room} {D : va_G} {tys : List (ClassId × FieldType)} {av : List Value} {wc : va_W} (hy : plainName y.cls = true) (hn : (lg_sl av).length ≤ n)
    (body : ∀ p e s m below meth c, p.tables.exec = Jvm.exec → c.code = cc → meth.sig.returnType = r → s.vm.findClass y.cls = some m.cls → meth.locks = false → c.maxLocals = n → tk s → va_K D vwCl tys s → va_P D vwCl wc s.heap → va_D (fun _ => True) wc →
      ∀ ls : Array Slot, lv_has ls n (lv_args 0 av) → W p l e rm s m av.toArray below meth c s.heap [] 0 0 (MQ below pQ0 av.toArray s 0 0 (fun _ => False)) (F0 m 0 ls [])) : vMet l y cc n r rm D tys av wc := by
  refine Met.ofW (cc := cc) (maxL := n) (ret := r) hy rfl ?_
  intro p e s m args below meth c s₁ B hml hv
  obtain ⟨rfl, h1, h2, h3, h4⟩ := hv
  have hl := lv_entry av (n := n) hn
  rw [lg_entry_eq]
  exact body p e s m below meth c B.exec B.bytes B.returns (findClass_of_methodNamed B.named) B.notSynchronized hml h1 h2 h3 h4 _ hl
section CV
variable {p : Program} {l : Launch} {e : Env} {R : Room} {s : State} {m : MethodId} {args : Array Value} {below : List Frame} {meth : Method} {c : Code} {H : Heap} {locs : List Loc} {cells slots : Nat} {Q : State → Prop}
variable {cc bytes : ByteArray} {pc maxL np ix : Nat} {ls : Array Slot} {rest st0 av : List Value} {a : Array Value} {own : String} {y : MethodName} {ret : Option FieldType} {rm : Room} {D : va_G} {tys : List (ClassId × FieldType)} {wc : va_W}
theorem p_vret (hx : p.tables.exec = Jvm.exec) (hb : c.code = cc) (hr : meth.sig.returnType = none) (hlk : meth.locks = false) (hdg : decode cc pc = .ok (.return_, 1)) :
    W p l e R s m args below meth c s.heap [] 0 0 (MQ below pQ0 args s 0 0 (fun _ => False)) (F0 m pc ls []) :=
  W.vret hx hb hr (fun t ht _ => ⟨rfl, ht⟩) (fun _ h => by cases h) hdg hlk
theorem v_run (hr : va_Run p l e R s m args below meth c H locs cells slots 0 0 (F0 m pc ls st0) rest (pQ0 a) (fun _ => False))
    (kk : W p l e R s m args below meth c H locs cells slots Q (F0 m (pc + 3) ls rest)) : W p l e R s m args below meth c H locs cells slots Q (F0 m pc ls st0) := by
  intro T hT X
  obtain ⟨v', st₀, t, T', L, h0, X', hL, e1, e2, ⟨hv, hp⟩, st⟩ := hr T hT X
  cases hv
  have hL0 : L = [] := List.eq_nil_iff_forall_not_mem.mpr (fun q hq => hL q hq)
  subst hL0
  rw [List.append_nil] at X'
  obtain ⟨t2, a1, b1⟩ := kk T' (by rw [e1, hp, h0]) X'
  exact ⟨t2, st t2 a1, b1⟩
theorem v_callS (hx : p.tables.exec = Jvm.exec) (hb : c.code = cc) (hml : c.maxLocals = ls.size) (hown : s.vm.findClass own = some m.cls) (hk : tk s) (hK : va_K D vwCl tys s) (K : kS own ix y bytes maxL ret np) (hM : vMet l y bytes maxL ret rm D tys av wc)
    (hP : va_P D vwCl wc H) (hD : va_D (fun _ => True) wc) (hst : st0 = av.reverse ++ rest) (hav : av.length = np) (hrm : rm.cells = 0 ∧ rm.slots = 0) (hR : kR R rm maxL cells slots) (hcat : (rest.map fun v => v.category).sum ≤ 8) (hdg : decode cc pc = .ok (.invokestatic ix, 3))
    (kk : W p l e R s m args below meth c H locs cells slots Q (F0 m (pc + 3) ls rest)) : W p l e R s m args below meth c H locs cells slots Q (F0 m pc ls st0) := by
  obtain ⟨k1, k2, k3, k4, k5⟩ := K
  obtain ⟨r1, r2, r3, r4⟩ := hR
  rw [hrm.1] at r3
  rw [hrm.2] at r4
  exact v_run (a := av.toArray) (va_runS (Ts := []) ⟨hx, hb, hml, hown, fun w h => by cases h⟩ hM ⟨⟨hrm.1, hrm.2, r1, r2, k_ws hk k4, List.mem_cons_self, hk _ k4 args, hk _ k3 args, ⟨k5.1, k5.2.1⟩, k_len k5, hk _ k1 args⟩, hk _ k2 args⟩ ⟨cPre_blind, c_pre hk hK hP hD⟩ rfl hav rfl hst (lv_room hcat) hdg ⟨r3, r4⟩) kk
end CV
theorem x_zH {s : State} {H : Heap} {aS : Nat} {wc : va_W} {locs : List Loc} (hZ : xS aS s s.heap) (hS : va_S (wA wc) s.heap H locs) (hAS : ∀ q, wA wc q → q ≠ aS) : xS aS s H := hZ.kept (hS.2.1 aS hZ.2.2 (fun q => hAS aS q rfl))
theorem x_subD {W0 wc w : va_W} {aS : Nat} {is : List Nat} (hD : va_D (wA w) W0) (hAS : ∀ q, wA w q → q ≠ aS) (hC : is.map (fun i => W0[i]?) = wc.map some) (hn : va_nd is = true) : va_D (fun q => q ≠ aS) wc := (hD.sub is hn hC).weaken (fun _ q _ h => hAS q.1 h)
def xN2 : List String := ["java/lang/RuntimeException", "java/lang/Exception"]
theorem xw_Clk_34 : xWords R_Clk 34 36 "java/lang/IndexOutOfBoundsException" xN2 := ⟨by decide +kernel, by decide +kernel, by decide +kernel, by decide +kernel, by decide, by decide⟩
theorem xw_Clk_41 : xWords R_Clk 41 43 "java/lang/IllegalArgumentException" xN2 := ⟨by decide +kernel, by decide +kernel, by decide +kernel, by decide +kernel, by decide, by decide⟩
theorem xw_Clk_52 : xWords R_Clk 52 54 "java/lang/UnsupportedOperationException" xN2 := ⟨by decide +kernel, by decide +kernel, by decide +kernel, by decide +kernel, by decide, by decide⟩
theorem xw_Clk_76 : xWords R_Clk 76 78 "java/util/NoSuchElementException" xN2 := ⟨by decide +kernel, by decide +kernel, by decide +kernel, by decide +kernel, by decide, by decide⟩
theorem xw_Ref_75 : xWords R_Ref 75 77 "java/lang/UnsupportedOperationException" xN2 := ⟨by decide +kernel, by decide +kernel, by decide +kernel, by decide +kernel, by decide, by decide⟩
/-- the class's answers, of a zone and a time -/
def aIn (off sv : Int) (b e : RU) (t : Int) : Int := bI (cSum off sv b e (t - (off + sv) * 60000))
def aOut (off sv : Int) (b e : RU) (t : Int) : Int := bI (!cSum off sv b e (t - off * 60000))
def aUni (off sv : Int) (b e : RU) (t : Int) (lt : Bool) : Int := if aIn off sv b e t ≠ 0 ∧ ¬ (bI lt ≠ 0 ∧ aOut off sv b e t ≠ 0) then t - (off + sv) * 60000 else t - off * 60000
def aChg (off sv : Int) (b e : RU) (t : Int) (bk : Bool) : Int := cTell (if bI bk = 0 then cFwd off sv b e t else cBack off sv b e t)
def aFld (off sv : Int) (b e : RU) (t w : Int) : Int := if w = 8 then bI (cSum off sv b e t) else if w = 7 then cMin off sv b e t else cPart (t + cMin off sv b e t * 60000) w
theorem cBack_bd {off sv t : Int} {b1 b2 b3 b4 e1 e2 e3 e4 : Int} (go1 : -840 ≤ off) (go2 : off ≤ 840) (gs1 : 0 ≤ sv) (gs2 : sv ≤ 120) (gb : 0 < sv → rOk b1 b2 b3 b4) (ge : 0 < sv → rOk e1 e2 e3 e4) (gt1 : -60000000 ≤ t) (gt2 : t ≤ 10413900000000) :
    -2000000000000000 ≤ cBack off sv (b1, b2, b3, b4) (e1, e2, e3, e4) t ∧ cBack off sv (b1, b2, b3, b4) (e1, e2, e3, e4) t ≤ 2000000000000000 := by
  unfold cBack
  split
  · omega
  · have q1 := rLast_bd (gb (by omega)) (t := t) (sh := off) (by omega) (by omega) (by omega) (by omega)
    have q2 := rLast_bd (ge (by omega)) (t := t) (sh := off + sv) (by omega) (by omega) (by omega) (by omega)
    show -2000000000000000 ≤ max (rLast b1 b2 b3 b4 t off) (rLast e1 e2 e3 e4 t (off + sv)) ∧ max (rLast b1 b2 b3 b4 t off) (rLast e1 e2 e3 e4 t (off + sv)) ≤ 2000000000000000
    omega
theorem cFwd_bd {off sv t : Int} {b1 b2 b3 b4 e1 e2 e3 e4 : Int} (go1 : -840 ≤ off) (go2 : off ≤ 840) (gs1 : 0 ≤ sv) (gs2 : sv ≤ 120) (gb : 0 < sv → rOk b1 b2 b3 b4) (ge : 0 < sv → rOk e1 e2 e3 e4) (gt1 : -60000000 ≤ t) (gt2 : t ≤ 10413900000000) :
    -2000000000000000 ≤ cFwd off sv (b1, b2, b3, b4) (e1, e2, e3, e4) t ∧ cFwd off sv (b1, b2, b3, b4) (e1, e2, e3, e4) t ≤ 2000000000000000 := by
  unfold cFwd
  split
  · omega
  · have q1 := rNext_bd (gb (by omega)) (t := t) (sh := off) (by omega) (by omega) (by omega) (by omega)
    have q2 := rNext_bd (ge (by omega)) (t := t) (sh := off + sv) (by omega) (by omega) (by omega) (by omega)
    show -2000000000000000 ≤ min (rNext b1 b2 b3 b4 t off) (rNext e1 e2 e3 e4 t (off + sv)) ∧ min (rNext b1 b2 b3 b4 t off) (rNext e1 e2 e3 e4 t (off + sv)) ≤ 2000000000000000
    omega
theorem cMin_bd {off sv : Int} {b e : RU} {t : Int} (go1 : -840 ≤ off) (go2 : off ≤ 840) (gs1 : 0 ≤ sv) (gs2 : sv ≤ 120) : -840 ≤ cMin off sv b e t ∧ cMin off sv b e t ≤ 960 := by
  unfold cMin; split <;> omega
