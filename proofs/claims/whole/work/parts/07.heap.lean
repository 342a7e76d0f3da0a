/-! Fields and arrays, in short rows. -/
def fG (own : String) (ix : Nat) (ref : String) (ci : Nat) (C : String) (T : u_T) (N k : Nat) : Prop :=
  vwCl[ci]? = some (C, T, N) ∧ k < N ∧ (∀ w ∈ u_ws C T N, w ∈ tbg) ∧ Cond.fieldLink own ix ref (T k).2.1 (T k).2.2.1 ∈ tbg ∧ (T k).1 = ref
/-- of a nest mate -/
def fN (own host : String) (ix : Nat) (ref : String) (ci : Nat) (C : String) (T : u_T) (N k : Nat) : Prop :=
  vwCl[ci]? = some (C, T, N) ∧ k < N ∧ (∀ w ∈ u_ws C T N, w ∈ tbg) ∧ Cond.fieldLinkNest own ix ref (T k).2.1 (T k).2.2.1 host ∈ tbg ∧ (T k).1 = ref
def fT (T : u_T) (N : Nat) (ty : Nat → FieldType) : Prop := (∀ k, k < N → parseFieldDescriptor (T k).2.2.1 = some (ty k)) ∧ ∀ a, a < N → ∀ b, b < N → a ≠ b → (T a).2.1 ≠ (T b).2.1
section GH
variable {p : Program} {l : Launch} {e : Env} {R : Room} {s : State} {m : MethodId} {args : Array Value} {below : List Frame} {meth : Method} {c : Code} {H : Heap} {locs : List Loc} {cells slots : Nat} {Q : State → Prop}
variable {cc : ByteArray} {pc ix ci N k a : Nat} {ls : Array Slot} {rest : List Value} {own host ref C : String} {T : u_T} {D : va_G} {A : Nat → Prop} {tys : List (ClassId × FieldType)} {ws : va_W} {H0 : Heap} {fs : List Value} {v : Value} {ty : Nat → FieldType}
theorem g_get (hx : p.tables.exec = Jvm.exec) (hb : c.code = cc) (hk : tk s) (hown : s.vm.findClass own = some m.cls) (hK : va_K D vwCl tys s) (hP : va_P D vwCl ws H) (q0 : Nat) (he : ws[q0]? = some (a, .inr (ci, fs))) (F : fG own ix ref ci C T N k) (hv : fs[k]? = some v) (hdg : decode cc pc = .ok (.getfield ix, 3))
    (kk : W p l e R s m args below meth c H locs cells slots Q (F0 m (pc + 3) ls (v :: rest))) : W p l e R s m args below meth c H locs cells slots Q (F0 m pc ls (.ref a :: rest)) := by
  obtain ⟨h1, h2, h3, h4, h5⟩ := F
  exact va_get (Ts := tbg) hx hb (fun w hw => hk w hw args) h3 hown hK hP q0 he h1 k h2 (hk _ h4 args) (fun x h => by rw [← h5]; exact h) hv hdg kk
theorem g_getN (hx : p.tables.exec = Jvm.exec) (hb : c.code = cc) (hk : tk s) (hown : s.vm.findClass own = some m.cls) (hK : va_K D vwCl tys s) (hP : va_P D vwCl ws H) (q0 : Nat) (he : ws[q0]? = some (a, .inr (ci, fs))) (F : fN own host ix ref ci C T N k) (hv : fs[k]? = some v) (hdg : decode cc pc = .ok (.getfield ix, 3))
    (kk : W p l e R s m args below meth c H locs cells slots Q (F0 m (pc + 3) ls (v :: rest))) : W p l e R s m args below meth c H locs cells slots Q (F0 m pc ls (.ref a :: rest)) := by
  obtain ⟨h1, h2, h3, h4, h5⟩ := F
  exact va_getN (Ts := tbg) hx hb (fun w hw => hk w hw args) h3 hown hK hP q0 he h1 k h2 (hk _ h4 args) (fun x h => by rw [← h5]; exact h) hv hdg kk
theorem g_put (hx : p.tables.exec = Jvm.exec) (hb : c.code = cc) (hk : tk s) (hown : s.vm.findClass own = some m.cls) (hK : va_K D vwCl tys s) (hP : va_P D vwCl ws H) (hD : va_D A ws) (hS : va_S A H0 H locs) (q0 : Nat) (he : ws[q0]? = some (a, .inr (ci, fs))) (F : fG own ix ref ci C T N k) (FT : fT T N ty) (hfin : (T k).2.2.2 = false) (hn : narrow (ty k) v = v) (hfit : fits (ty k) v = true) (hl : k < fs.length) (hdg : decode cc pc = .ok (.putfield ix, 3))
    (kk : ∀ (H1 : Heap) (locs1 : List Loc), va_P D vwCl (ws.set q0 (a, .inr (ci, fs.set k v))) H1 → va_D A (ws.set q0 (a, .inr (ci, fs.set k v))) → va_S A H0 H1 locs1 → W p l e R s m args below meth c H1 locs1 cells slots Q (F0 m (pc + 3) ls rest)) : W p l e R s m args below meth c H locs cells slots Q (F0 m pc ls (v :: .ref a :: rest)) := by
  obtain ⟨h1, h2, h3, h4, h5⟩ := F
  exact va_put (Ts := tbg) hx hb (fun w hw => hk w hw args) h3 ty FT.1 FT.2 hown hK hP hD hS q0 he h1 k h2 (hk _ h4 args) (fun x h => by rw [← h5]; exact h) hfin (FT.1 k h2) hn hfit hl hdg kk
theorem g_putN (hx : p.tables.exec = Jvm.exec) (hb : c.code = cc) (hk : tk s) (hown : s.vm.findClass own = some m.cls) (hK : va_K D vwCl tys s) (hP : va_P D vwCl ws H) (hD : va_D A ws) (hS : va_S A H0 H locs) (q0 : Nat) (he : ws[q0]? = some (a, .inr (ci, fs))) (F : fN own host ix ref ci C T N k) (FT : fT T N ty) (hfin : (T k).2.2.2 = false) (hn : narrow (ty k) v = v) (hfit : fits (ty k) v = true) (hl : k < fs.length) (hdg : decode cc pc = .ok (.putfield ix, 3))
    (kk : ∀ (H1 : Heap) (locs1 : List Loc), va_P D vwCl (ws.set q0 (a, .inr (ci, fs.set k v))) H1 → va_D A (ws.set q0 (a, .inr (ci, fs.set k v))) → va_S A H0 H1 locs1 → W p l e R s m args below meth c H1 locs1 cells slots Q (F0 m (pc + 3) ls rest)) : W p l e R s m args below meth c H locs cells slots Q (F0 m pc ls (v :: .ref a :: rest)) := by
  obtain ⟨h1, h2, h3, h4, h5⟩ := F
  exact va_putN (Ts := tbg) hx hb (fun w hw => hk w hw args) h3 ty FT.1 FT.2 hown hK hP hD hS q0 he h1 k h2 (hk _ h4 args) (fun x h => by rw [← h5]; exact h) hfin (FT.1 k h2) hn hfit hl hdg kk
theorem ix_in {i n : Nat} (h : i < n) (hn : n ≤ 2147483647) : vp_in (iI (i : Int)) n := iI_in (by omega) (by omega) (by omega)
theorem ix_cl {i : Nat} (h : i ≤ 2147483647) : (iI (i : Int)).toNatClampNeg = i := by rw [iI_cl (by omega) (by omega)]; omega
variable {n i t0 : Nat} {cA : ClassId}
theorem g_iald {f : Nat → Int32} (hx : p.tables.exec = Jvm.exec) (hb : c.code = cc) (hK : va_K D vwCl tys s) (hP : va_P D vwCl ws H) (q0 t0 : Nat) (ha : ws[q0]? = some (a, .inl (cA, n, .inl f))) (ht : tys[t0]? = some (cA, .int)) (hdg : decode cc pc = .ok (.iaload, 1))
    (kk : W p l e R s m args below meth c H locs cells slots Q (F0 m (pc + 1) ls (.int (f i) :: rest))) (hi : i < n := by omega) (hn : n ≤ 2147483647 := by omega) : W p l e R s m args below meth c H locs cells slots Q (F0 m pc ls (.int (iI (i : Int)) :: .ref a :: rest)) :=
  va_iald hx hb hK hP q0 t0 ha ht (ix_in hi hn) hdg (by rw [ix_cl (by omega)]; exact kk)
theorem g_bald {f : Nat → Int32} (hx : p.tables.exec = Jvm.exec) (hb : c.code = cc) (hK : va_K D vwCl tys s) (hP : va_P D vwCl ws H) (q0 t0 : Nat) (ha : ws[q0]? = some (a, .inl (cA, n, .inl f))) (ht : tys[t0]? = some (cA, .byte)) (hdg : decode cc pc = .ok (.baload, 1))
    (kk : W p l e R s m args below meth c H locs cells slots Q (F0 m (pc + 1) ls (.int (f i) :: rest))) (hi : i < n := by omega) (hn : n ≤ 2147483647 := by omega) : W p l e R s m args below meth c H locs cells slots Q (F0 m pc ls (.int (iI (i : Int)) :: .ref a :: rest)) :=
  va_bald hx hb hK hP q0 t0 ha ht (ix_in hi hn) hdg (by rw [ix_cl (by omega)]; exact kk)
theorem g_zald {f : Nat → Int32} (hx : p.tables.exec = Jvm.exec) (hb : c.code = cc) (hK : va_K D vwCl tys s) (hP : va_P D vwCl ws H) (q0 t0 : Nat) (ha : ws[q0]? = some (a, .inl (cA, n, .inl f))) (ht : tys[t0]? = some (cA, .boolean)) (hdg : decode cc pc = .ok (.baload, 1))
    (kk : W p l e R s m args below meth c H locs cells slots Q (F0 m (pc + 1) ls (.int (f i) :: rest))) (hi : i < n := by omega) (hn : n ≤ 2147483647 := by omega) : W p l e R s m args below meth c H locs cells slots Q (F0 m pc ls (.int (iI (i : Int)) :: .ref a :: rest)) :=
  va_zald hx hb hK hP q0 t0 ha ht (ix_in hi hn) hdg (by rw [ix_cl (by omega)]; exact kk)
theorem g_lald {f : Nat → Int64} (hx : p.tables.exec = Jvm.exec) (hb : c.code = cc) (hK : va_K D vwCl tys s) (hP : va_P D vwCl ws H) (q0 t0 : Nat) (ha : ws[q0]? = some (a, .inl (cA, n, .inr (.inl f)))) (ht : tys[t0]? = some (cA, .long)) (hdg : decode cc pc = .ok (.laload, 1))
    (kk : W p l e R s m args below meth c H locs cells slots Q (F0 m (pc + 1) ls (.long (f i) :: rest))) (hi : i < n := by omega) (hn : n ≤ 2147483647 := by omega) : W p l e R s m args below meth c H locs cells slots Q (F0 m pc ls (.int (iI (i : Int)) :: .ref a :: rest)) :=
  va_lald hx hb hK hP q0 t0 ha ht (ix_in hi hn) hdg (by rw [ix_cl (by omega)]; exact kk)
/-- a reference out of an array of references, of objects or of arrays -/
theorem g_aald {f : Nat → Option Nat} {q : Nat} {tyC : FieldType} (hx : p.tables.exec = Jvm.exec) (hb : c.code = cc) (hK : va_K D vwCl tys s) (hP : va_P D vwCl ws H) (q0 t0 : Nat) (ha : ws[q0]? = some (a, .inl (cA, n, .inr (.inr (.inr (.inr f)))))) (ht : tys[t0]? = some (cA, tyC)) (hrt : tyC.isReference = true) (hq : f i = some q) (hdg : decode cc pc = .ok (.aaload, 1))
    (kk : W p l e R s m args below meth c H locs cells slots Q (F0 m (pc + 1) ls (.ref q :: rest))) (hi : i < n := by omega) (hn : n ≤ 2147483647 := by omega) : W p l e R s m args below meth c H locs cells slots Q (F0 m pc ls (.int (iI (i : Int)) :: .ref a :: rest)) := by
  have hin := ix_in hi hn
  have hlt : (iI (i : Int)).toNatClampNeg < n := by rw [ix_cl (by omega)]; exact hi
  have e : f (iI (i : Int)).toNatClampNeg = some q := by rw [ix_cl (by omega)]; exact hq
  exact W.aald (v := .ref q) (ty := tyC) hx hb (hP q0 _ ha) ((hK.2 t0 _ ht).1 n (fun j => va_rf (f j))) hrt (fun q => by cases q) (by show ¬ (iI (i : Int) < 0 ∨ (arrV _ _ _).slots.size ≤ _); rw [arrV_size]; exact hin) (by show (arrV _ _ _).slots[_]? = _; rw [arrV_read _ _ hlt, e]; rfl) rfl rfl hdg kk
theorem g_iast {f : Nat → Int32} {x : Int32} (hx : p.tables.exec = Jvm.exec) (hb : c.code = cc) (hK : va_K D vwCl tys s) (hP : va_P D vwCl ws H) (hD : va_D A ws) (hS : va_S A H0 H locs) (q0 t0 : Nat) (ha : ws[q0]? = some (a, .inl (cA, n, .inl f))) (ht : tys[t0]? = some (cA, .int)) (hdg : decode cc pc = .ok (.iastore, 1))
    (kk : ∀ (H1 : Heap) (locs1 : List Loc), va_P D vwCl (ws.set q0 (a, .inl (cA, n, .inl (upd f i x)))) H1 → va_D A (ws.set q0 (a, .inl (cA, n, .inl (upd f i x)))) → va_S A H0 H1 locs1 → W p l e R s m args below meth c H1 locs1 cells slots Q (F0 m (pc + 1) ls rest)) (hi : i < n := by omega) (hn : n ≤ 2147483647 := by omega) : W p l e R s m args below meth c H locs cells slots Q (F0 m pc ls (.int x :: .int (iI (i : Int)) :: .ref a :: rest)) :=
  va_iast hx hb hK hP hD hS q0 t0 ha ht (ix_in hi hn) hdg (by rw [ix_cl (by omega)]; exact kk)
theorem g_bast {f : Nat → Int32} {x : Int32} (hx : p.tables.exec = Jvm.exec) (hb : c.code = cc) (hK : va_K D vwCl tys s) (hP : va_P D vwCl ws H) (hD : va_D A ws) (hS : va_S A H0 H locs) (q0 t0 : Nat) (ha : ws[q0]? = some (a, .inl (cA, n, .inl f))) (ht : tys[t0]? = some (cA, .byte)) (hdg : decode cc pc = .ok (.bastore, 1))
    (kk : ∀ (H1 : Heap) (locs1 : List Loc), va_P D vwCl (ws.set q0 (a, .inl (cA, n, .inl (upd f i x)))) H1 → va_D A (ws.set q0 (a, .inl (cA, n, .inl (upd f i x)))) → va_S A H0 H1 locs1 → W p l e R s m args below meth c H1 locs1 cells slots Q (F0 m (pc + 1) ls rest)) (hxn : vp_nar .byte x = x) (hi : i < n := by omega) (hn : n ≤ 2147483647 := by omega) : W p l e R s m args below meth c H locs cells slots Q (F0 m pc ls (.int x :: .int (iI (i : Int)) :: .ref a :: rest)) :=
  va_bast hx hb hK hP hD hS q0 t0 ha ht (ix_in hi hn) hdg (by rw [ix_cl (by omega), hxn]; exact kk)
theorem g_zast {f : Nat → Int32} {x : Int32} (hx : p.tables.exec = Jvm.exec) (hb : c.code = cc) (hK : va_K D vwCl tys s) (hP : va_P D vwCl ws H) (hD : va_D A ws) (hS : va_S A H0 H locs) (q0 t0 : Nat) (ha : ws[q0]? = some (a, .inl (cA, n, .inl f))) (ht : tys[t0]? = some (cA, .boolean)) (hdg : decode cc pc = .ok (.bastore, 1))
    (kk : ∀ (H1 : Heap) (locs1 : List Loc), va_P D vwCl (ws.set q0 (a, .inl (cA, n, .inl (upd f i x)))) H1 → va_D A (ws.set q0 (a, .inl (cA, n, .inl (upd f i x)))) → va_S A H0 H1 locs1 → W p l e R s m args below meth c H1 locs1 cells slots Q (F0 m (pc + 1) ls rest)) (hxn : vp_nar .boolean x = x) (hi : i < n := by omega) (hn : n ≤ 2147483647 := by omega) : W p l e R s m args below meth c H locs cells slots Q (F0 m pc ls (.int x :: .int (iI (i : Int)) :: .ref a :: rest)) :=
  va_zast hx hb hK hP hD hS q0 t0 ha ht (ix_in hi hn) hdg (by rw [ix_cl (by omega), hxn]; exact kk)
theorem g_last {f : Nat → Int64} {x : Int64} (hx : p.tables.exec = Jvm.exec) (hb : c.code = cc) (hK : va_K D vwCl tys s) (hP : va_P D vwCl ws H) (hD : va_D A ws) (hS : va_S A H0 H locs) (q0 t0 : Nat) (ha : ws[q0]? = some (a, .inl (cA, n, .inr (.inl f)))) (ht : tys[t0]? = some (cA, .long)) (hdg : decode cc pc = .ok (.lastore, 1))
    (kk : ∀ (H1 : Heap) (locs1 : List Loc), va_P D vwCl (ws.set q0 (a, .inl (cA, n, .inr (.inl (vp_updL f i x))))) H1 → va_D A (ws.set q0 (a, .inl (cA, n, .inr (.inl (vp_updL f i x))))) → va_S A H0 H1 locs1 → W p l e R s m args below meth c H1 locs1 cells slots Q (F0 m (pc + 1) ls rest)) (hi : i < n := by omega) (hn : n ≤ 2147483647 := by omega) : W p l e R s m args below meth c H locs cells slots Q (F0 m pc ls (.long x :: .int (iI (i : Int)) :: .ref a :: rest)) :=
  va_last hx hb hK hP hD hS q0 t0 ha ht (ix_in hi hn) hdg (by rw [ix_cl (by omega)]; exact kk)
theorem nil_P : va_P D vwCl [] H := fun k q h => by simp at h
theorem nil_D {B : Nat → Prop} : va_D B [] := ⟨fun i j x y h => by simp at h, fun k q h => by simp at h⟩
end GH
