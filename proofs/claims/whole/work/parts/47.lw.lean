/-! The law's world: the clock's cells, the reference's, the array that hands a number over; what holds between the calls. By program (wip/whole/m_lw.py). -/
def LW (ad : Nat → Nat) (cl : Nat → ClassId) (aZ : Nat → Nat) (bZ : Nat → Nat) (eZ : Nat → Nat) (eR : Nat → Nat) (gR : Nat → Nat) (bp : Int) (nn : Nat) (i1 : Nat) (bk : Bool) (f : Nat → Int32) (doff : Int) (dsv : Int) (dm : RU) (dn : RU) (off : Nat → Int) (sv : Nat → Int) (B : Nat → RU) (E : Nat → RU) (fa : Int) (yr : Int) (mn : Int) (dy : Int) (i2 : Nat) (cN : Nat → Nat) (eF : Nat → Nat → Int) (gF : Nat → Nat → Bool) (rr : Nat → Int32) (fF : Nat → Int64) (oF : Nat → Int64) (pl : Int) (n2 : Nat) (f2 : Nat → Int32) (o2 : Nat → Int) (s2 : Nat → Int) : va_W := [(ad 0, .inr (3, [.ref (ad 1), .ref (ad 3), .ref (ad 6), .int (iI bp)])), (ad 1, .inr (1, [.ref (ad 2), .int (iI ((nn : Int))), .int (iI ((i1 : Int))), .int (iI (bI bk))])), (ad 2, .inl (cl 0, 400, .inl f)), (ad 3, .inr (2, [.int (iI doff), .int (iI dsv), .ref (ad 4), .ref (ad 5)])), (ad 4, .inr (0, [.int (iI dm.1), .int (iI dm.2.1), .int (iI dm.2.2.1), .int (iI dm.2.2.2)])), (ad 5, .inr (0, [.int (iI dn.1), .int (iI dn.2.1), .int (iI dn.2.2.1), .int (iI dn.2.2.2)])), (ad 6, .inl (cl 4, 8, .inr (.inr (.inr (.inr (fun k => some (aZ k))))))), (aZ 0, .inr (2, [.int (iI (off 0)), .int (iI (sv 0)), .ref (bZ 0), .ref (eZ 0)])), (bZ 0, .inr (0, [.int (iI ((B 0).1)), .int (iI ((B 0).2.1)), .int (iI ((B 0).2.2.1)), .int (iI ((B 0).2.2.2))])), (eZ 0, .inr (0, [.int (iI ((E 0).1)), .int (iI ((E 0).2.1)), .int (iI ((E 0).2.2.1)), .int (iI ((E 0).2.2.2))])), (aZ 1, .inr (2, [.int (iI (off 1)), .int (iI (sv 1)), .ref (bZ 1), .ref (eZ 1)])), (bZ 1, .inr (0, [.int (iI ((B 1).1)), .int (iI ((B 1).2.1)), .int (iI ((B 1).2.2.1)), .int (iI ((B 1).2.2.2))])), (eZ 1, .inr (0, [.int (iI ((E 1).1)), .int (iI ((E 1).2.1)), .int (iI ((E 1).2.2.1)), .int (iI ((E 1).2.2.2))])), (aZ 2, .inr (2, [.int (iI (off 2)), .int (iI (sv 2)), .ref (bZ 2), .ref (eZ 2)])), (bZ 2, .inr (0, [.int (iI ((B 2).1)), .int (iI ((B 2).2.1)), .int (iI ((B 2).2.2.1)), .int (iI ((B 2).2.2.2))])), (eZ 2, .inr (0, [.int (iI ((E 2).1)), .int (iI ((E 2).2.1)), .int (iI ((E 2).2.2.1)), .int (iI ((E 2).2.2.2))])), (aZ 3, .inr (2, [.int (iI (off 3)), .int (iI (sv 3)), .ref (bZ 3), .ref (eZ 3)])), (bZ 3, .inr (0, [.int (iI ((B 3).1)), .int (iI ((B 3).2.1)), .int (iI ((B 3).2.2.1)), .int (iI ((B 3).2.2.2))])), (eZ 3, .inr (0, [.int (iI ((E 3).1)), .int (iI ((E 3).2.1)), .int (iI ((E 3).2.2.1)), .int (iI ((E 3).2.2.2))])), (aZ 4, .inr (2, [.int (iI (off 4)), .int (iI (sv 4)), .ref (bZ 4), .ref (eZ 4)])), (bZ 4, .inr (0, [.int (iI ((B 4).1)), .int (iI ((B 4).2.1)), .int (iI ((B 4).2.2.1)), .int (iI ((B 4).2.2.2))])), (eZ 4, .inr (0, [.int (iI ((E 4).1)), .int (iI ((E 4).2.1)), .int (iI ((E 4).2.2.1)), .int (iI ((E 4).2.2.2))])), (aZ 5, .inr (2, [.int (iI (off 5)), .int (iI (sv 5)), .ref (bZ 5), .ref (eZ 5)])), (bZ 5, .inr (0, [.int (iI ((B 5).1)), .int (iI ((B 5).2.1)), .int (iI ((B 5).2.2.1)), .int (iI ((B 5).2.2.2))])), (eZ 5, .inr (0, [.int (iI ((E 5).1)), .int (iI ((E 5).2.1)), .int (iI ((E 5).2.2.1)), .int (iI ((E 5).2.2.2))])), (aZ 6, .inr (2, [.int (iI (off 6)), .int (iI (sv 6)), .ref (bZ 6), .ref (eZ 6)])), (bZ 6, .inr (0, [.int (iI ((B 6).1)), .int (iI ((B 6).2.1)), .int (iI ((B 6).2.2.1)), .int (iI ((B 6).2.2.2))])), (eZ 6, .inr (0, [.int (iI ((E 6).1)), .int (iI ((E 6).2.1)), .int (iI ((E 6).2.2.1)), .int (iI ((E 6).2.2.2))])), (aZ 7, .inr (2, [.int (iI (off 7)), .int (iI (sv 7)), .ref (bZ 7), .ref (eZ 7)])), (bZ 7, .inr (0, [.int (iI ((B 7).1)), .int (iI ((B 7).2.1)), .int (iI ((B 7).2.2.1)), .int (iI ((B 7).2.2.2))])), (eZ 7, .inr (0, [.int (iI ((E 7).1)), .int (iI ((E 7).2.1)), .int (iI ((E 7).2.2.1)), .int (iI ((E 7).2.2.2))])), (ad 7, .inr (4, [.int (iI fa), .ref (ad 8), .int (iI ((n2 : Int))), .int (iI pl), .int (iI yr), .int (iI mn), .int (iI dy), .int (iI ((i2 : Int))), .ref (ad 9), .ref (ad 10), .ref (ad 11), .ref (ad 12), .ref (ad 13), .ref (ad 14), .ref (ad 15)])), (ad 8, .inl (cl 0, 400, .inl f2)), (ad 9, .inl (cl 1, 8, .inl (fun j => iI (o2 j)))), (ad 10, .inl (cl 1, 8, .inl (fun j => iI (s2 j)))), (ad 11, .inl (cl 5, 8, .inr (.inr (.inr (.inr (fun k => some (eR k))))))), (eR 0, .inl (cl 2, 660, .inr (.inl (fun j => lL (eF 0 j))))), (eR 1, .inl (cl 2, 660, .inr (.inl (fun j => lL (eF 1 j))))), (eR 2, .inl (cl 2, 660, .inr (.inl (fun j => lL (eF 2 j))))), (eR 3, .inl (cl 2, 660, .inr (.inl (fun j => lL (eF 3 j))))), (eR 4, .inl (cl 2, 660, .inr (.inl (fun j => lL (eF 4 j))))), (eR 5, .inl (cl 2, 660, .inr (.inl (fun j => lL (eF 5 j))))), (eR 6, .inl (cl 2, 660, .inr (.inl (fun j => lL (eF 6 j))))), (eR 7, .inl (cl 2, 660, .inr (.inl (fun j => lL (eF 7 j))))), (ad 12, .inl (cl 6, 8, .inr (.inr (.inr (.inr (fun k => some (gR k))))))), (gR 0, .inl (cl 3, 660, .inl (fun j => iI (bI (gF 0 j))))), (gR 1, .inl (cl 3, 660, .inl (fun j => iI (bI (gF 1 j))))), (gR 2, .inl (cl 3, 660, .inl (fun j => iI (bI (gF 2 j))))), (gR 3, .inl (cl 3, 660, .inl (fun j => iI (bI (gF 3 j))))), (gR 4, .inl (cl 3, 660, .inl (fun j => iI (bI (gF 4 j))))), (gR 5, .inl (cl 3, 660, .inl (fun j => iI (bI (gF 5 j))))), (gR 6, .inl (cl 3, 660, .inl (fun j => iI (bI (gF 6 j))))), (gR 7, .inl (cl 3, 660, .inl (fun j => iI (bI (gF 7 j))))), (ad 13, .inl (cl 1, 8, .inl (fun j => iI (cN j : Int)))), (ad 14, .inl (cl 1, 8, .inl rr)), (ad 15, .inl (cl 2, 2, .inr (.inl fF))), (ad 16, .inl (cl 2, 1, .inr (.inl oF)))]
def LI (bp : Int) (nn : Nat) (off sv : Nat → Int) (B E : Nat → RU) (cN : Nat → Nat) (eF : Nat → Nat → Int) (gF : Nat → Nat → Bool) : Prop :=
  nn ≤ 400 ∧ (∀ k, k < 8 → zRel (off k) (sv k) (B k) (E k) (cN k) (eF k) (gF k)) ∧ (∀ k, k < 8 → ∀ j, j < 660 → -1000000000000000 ≤ eF k j ∧ eF k j ≤ 1000000000000000) ∧ -1 ≤ bp ∧ bp ≤ 400
theorem z8 {z : Nat} (h : z < 8) : z = 0 ∨ z = 1 ∨ z = 2 ∨ z = 3 ∨ z = 4 ∨ z = 5 ∨ z = 6 ∨ z = 7 := by omega
def updF {α : Type} (F : Nat → α) (k : Nat) (x : α) : Nat → α := fun j => if j = k then x else F j
theorem updF_at {α : Type} {F : Nat → α} {k : Nat} {x : α} : updF F k x k = x := by simp [updF]
theorem updF_ne {α : Type} {F : Nat → α} {k j : Nat} {x : α} (h : j ≠ k) : updF F k x j = F j := by simp [updF, h]
theorem upd_updF {F : Nat → Int} {k : Nat} {x : Int} : upd (fun j => iI (F j)) k (iI x) = fun j => iI (updF F k x j) := by
  funext j
  by_cases e : j = k <;> simp [upd, updF, e]
theorem upd_updN {F : Nat → Nat} {k x : Nat} : upd (fun j => iI (F j : Int)) k (iI (x : Int)) = fun j => iI ((updF F k x j : Nat) : Int) := by
  funext j
  by_cases e : j = k <;> simp [upd, updF, e]
/-- what is known of a zone between the calls -/
theorem LI_z {bp : Int} {nn : Nat} {off sv : Nat → Int} {B E : Nat → RU} {cN : Nat → Nat} {eF : Nat → Nat → Int} {gF : Nat → Nat → Bool} {zi : Nat} (h : LI bp nn off sv B E cN eF gF) (hz : zi < 8) :
    -840 ≤ off zi ∧ off zi ≤ 840 ∧ 0 ≤ sv zi ∧ sv zi ≤ 120 ∧ cN zi ≤ 660 ∧ evS (cN zi) (eF zi) (gF zi) ∧ (0 < sv zi → rOk (B zi).1 (B zi).2.1 (B zi).2.2.1 (B zi).2.2.2) ∧ (0 < sv zi → rOk (E zi).1 (E zi).2.1 (E zi).2.2.1 (E zi).2.2.2) := by
  have hr := h.2.1 zi hz
  obtain ⟨k1, k2, k3, k4⟩ := zRel_sv hr
  obtain ⟨h1, h2, ⟨h3, h4⟩ | ⟨h3, h4, h5, h6, h7, h8, h9⟩⟩ := hr
  · rw [h4]
    exact ⟨h1, h2, k1, k2, by omega, fun i j a b => by omega, fun q => by omega, fun q => by omega⟩
  · rw [h7]
    exact ⟨h1, h2, k1, k2, by omega, h8, fun _ => h5, fun _ => h6⟩
theorem i32_b (x : Int32) : -2147483648 ≤ x.toInt ∧ x.toInt ≤ 2147483647 := by
  have h1 := x.toInt_lt
  have h2 := x.le_toInt
  omega
theorem i64_b (x : Int64) : -9223372036854775808 ≤ x.toInt ∧ x.toInt ≤ 9223372036854775807 := by
  have h1 := x.toInt_lt
  have h2 := x.le_toInt
  omega
theorem bI_or {p q : Bool} (h : bI p + bI q ≠ 0) : p = true ∨ q = true := by
  cases p <;> cases q <;> first | exact absurd rfl h | exact Or.inl rfl | exact Or.inr rfl
theorem bI_nor {p q : Bool} (h : bI p + bI q = 0) : p = false ∧ q = false := by
  cases p <;> cases q <;> first | exact ⟨rfl, rfl⟩ | exact absurd h (by decide)
theorem aChg_b {bp : Int} {nn : Nat} {off sv : Nat → Int} {B E : Nat → RU} {cN : Nat → Nat} {eF : Nat → Nat → Int} {gF : Nat → Nat → Bool} {zi : Nat} {t : Int} (h : LI bp nn off sv B E cN eF gF) (hz : zi < 8) (ht1 : 0 ≤ t) (ht2 : t ≤ 10413791999999) (bk : Bool) :
    -1000000000000000 ≤ aChg (off zi) (sv zi) (B zi) (E zi) t bk ∧ aChg (off zi) (sv zi) (B zi) (E zi) t bk ≤ 1000000000000000 := by
  rw [rel_chg (h.2.1 zi hz) ht1 ht2 bk]
  have c := (LI_z h hz).2.2.2.2.1
  have hk := evK_le (eF zi) t (cN zi)
  by_cases q : bI bk = 0
  · rw [if_pos q]
    by_cases r : evK (eF zi) t (cN zi) = cN zi
    · rw [if_pos r]; omega
    · rw [if_neg r]; exact h.2.2.1 zi hz _ (by omega)
  · rw [if_neg q]
    by_cases r : evK (eF zi) t (cN zi) = 0 ∨ eF zi (evK (eF zi) t (cN zi) - 1) < 0
    · rw [if_pos r]; omega
    · rw [if_neg r]; exact h.2.2.1 zi hz _ (by omega)
/-- the time in the script -/
def tm (xs : Nat → Int32) (i : Nat) : Int := ((lL (xs (i + 2)).toInt <<< ((iI 32).toInt64 &&& 63)) ||| (lL (xs (i + 3)).toInt &&& lL 4294967295)).toInt
theorem tm_b (xs : Nat → Int32) (i : Nat) : -9223372036854775808 ≤ tm xs i ∧ tm xs i ≤ 9223372036854775807 := i64_b _
/-- a zone read anew -/
theorem LI_upd {bp bp' : Int} {nn nn' : Nat} {off sv : Nat → Int} {B E : Nat → RU} {cN : Nat → Nat} {eF : Nat → Nat → Int} {gF : Nat → Nat → Bool} {zi : Nat} {o v : Int} {b e : RU} {c : Nat} {F : Nat → Int} {G : Nat → Bool} (h : LI bp nn off sv B E cN eF gF) (hn : nn' ≤ 400) (hb1 : -1 ≤ bp') (hb2 : bp' ≤ 400) (hr : zRel o v b e c F G) (hF : ∀ j, j < 660 → -1000000000000000 ≤ F j ∧ F j ≤ 1000000000000000) :
    LI bp' nn' (updF off zi o) (updF sv zi v) (updF B zi b) (updF E zi e) (updF cN zi c) (updF eF zi F) (updF gF zi G) := by
  refine ⟨hn, fun k hk => ?_, fun k hk => ?_, hb1, hb2⟩
  · by_cases q : k = zi
    · subst q; simp only [updF_at]; exact hr
    · simp only [updF_ne q]; exact h.2.1 k hk
  · by_cases q : k = zi
    · subst q; simp only [updF_at]; exact hF
    · simp only [updF_ne q]; exact h.2.2.1 k hk
set_option maxRecDepth 20000 in
theorem LW_z (ad : Nat → Nat) (cl : Nat → ClassId) (aZ : Nat → Nat) (bZ : Nat → Nat) (eZ : Nat → Nat) (eR : Nat → Nat) (gR : Nat → Nat) (bp : Int) (nn : Nat) (i1 : Nat) (bk : Bool) (f : Nat → Int32) (doff : Int) (dsv : Int) (dm : RU) (dn : RU) (off : Nat → Int) (sv : Nat → Int) (B : Nat → RU) (E : Nat → RU) (fa : Int) (yr : Int) (mn : Int) (dy : Int) (i2 : Nat) (cN : Nat → Nat) (eF : Nat → Nat → Int) (gF : Nat → Nat → Bool) (rr : Nat → Int32) (fF : Nat → Int64) (oF : Nat → Int64) {zi : Nat} (h : zi < 8) : (LW ad cl aZ bZ eZ eR gR bp nn i1 bk f doff dsv dm dn off sv B E fa yr mn dy i2 cN eF gF rr fF oF bp nn f off sv)[7 + 3 * zi]? = some (aZ zi, .inr (2, [.int (iI (off zi)), .int (iI (sv zi)), .ref (bZ zi), .ref (eZ zi)])) ∧ (LW ad cl aZ bZ eZ eR gR bp nn i1 bk f doff dsv dm dn off sv B E fa yr mn dy i2 cN eF gF rr fF oF bp nn f off sv)[8 + 3 * zi]? = some (bZ zi, .inr (0, [.int (iI ((B zi).1)), .int (iI ((B zi).2.1)), .int (iI ((B zi).2.2.1)), .int (iI ((B zi).2.2.2))])) ∧ (LW ad cl aZ bZ eZ eR gR bp nn i1 bk f doff dsv dm dn off sv B E fa yr mn dy i2 cN eF gF rr fF oF bp nn f off sv)[9 + 3 * zi]? = some (eZ zi, .inr (0, [.int (iI ((E zi).1)), .int (iI ((E zi).2.1)), .int (iI ((E zi).2.2.1)), .int (iI ((E zi).2.2.2))])) ∧ (LW ad cl aZ bZ eZ eR gR bp nn i1 bk f doff dsv dm dn off sv B E fa yr mn dy i2 cN eF gF rr fF oF bp nn f off sv)[36 + zi]? = some (eR zi, .inl (cl 2, 660, .inr (.inl (fun j => lL (eF zi j))))) ∧ (LW ad cl aZ bZ eZ eR gR bp nn i1 bk f doff dsv dm dn off sv B E fa yr mn dy i2 cN eF gF rr fF oF bp nn f off sv)[45 + zi]? = some (gR zi, .inl (cl 3, 660, .inl (fun j => iI (bI (gF zi j))))) := by
  rcases z8 h with rfl | rfl | rfl | rfl | rfl | rfl | rfl | rfl <;> exact ⟨rfl, rfl, rfl, rfl, rfl⟩
/-- where a round of the law's loop goes on, i: the place in the script -/
def LK (p : Program) (l : Launch) (e : Env) (s : State) (m : MethodId) (below : List Frame) (meth : Method) (c : Code) (b : Nat) (D : va_G) (ad : Nat → Nat) (cl : Nat → ClassId) (aZ : Nat → Nat) (bZ : Nat → Nat) (eZ : Nat → Nat) (eR : Nat → Nat) (gR : Nat → Nat) (i cells slots : Nat) (Q : State → Prop) : Prop :=
  ∀ (bp : Int) (nn : Nat) (i1 : Nat) (bk : Bool) (f : Nat → Int32) (doff : Int) (dsv : Int) (dm : RU) (dn : RU) (off : Nat → Int) (sv : Nat → Int) (B : Nat → RU) (E : Nat → RU) (fa : Int) (yr : Int) (mn : Int) (dy : Int) (i2 : Nat) (cN : Nat → Nat) (eF : Nat → Nat → Int) (gF : Nat → Nat → Bool) (rr : Nat → Int32) (fF : Nat → Int64) (oF : Nat → Int64) (H : Heap) (locs : List Loc) (ls : Array Slot), LI bp nn off sv B E cN eF gF → va_P D vwCl (LW ad cl aZ bZ eZ eR gR bp nn i1 bk f doff dsv dm dn off sv B E fa yr mn dy i2 cN eF gF rr fF oF bp nn f off sv) H → va_D (fun q => s.heap.size ≤ q) (LW ad cl aZ bZ eZ eR gR bp nn i1 bk f doff dsv dm dn off sv B E fa yr mn dy i2 cN eF gF rr fF oF bp nn f off sv) → va_S (fun q => s.heap.size ≤ q) s.heap H locs →
    lv_has ls 8 [(4, .int (iI (i : Int))), (0, .ref b), (1, .ref (ad 0)), (2, .ref (ad 7)), (3, .ref (ad 16))] → W p l e room_1 s m #[.ref b] below meth c H locs cells slots Q (F0 m 866 ls [])
/-- what holds all along the law -/
def LC (p : Program) (l : Launch) (s : State) (m : MethodId) (meth : Method) (c : Code) (b L : Nat) (xs : Nat → Int32) (D : va_G) (tys : List (ClassId × FieldType)) (cl : Nat → ClassId) (aS : Nat) : Prop :=
  p.tables.exec = Jvm.exec ∧ c.code = code ∧ meth.sig.returnType = ret ∧ c.maxLocals = 8 ∧ s.vm.findClass R_Law = some m.cls ∧ meth.locks = false ∧ tk s ∧ va_K D vwCl tys s ∧ xS aS s s.heap ∧ tNc s ∧ va_X b L xs s s.heap ∧ b < s.heap.size ∧ L ≤ 3072 ∧ l.stackTraces = false ∧
  tys[0]? = some (cl 0, .byte) ∧ tys[1]? = some (cl 1, .int) ∧ tys[2]? = some (cl 2, .long) ∧ tys[3]? = some (cl 3, .boolean) ∧ tys[4]? = some (cl 4, .object "ZoneClock$Zone") ∧ tys[5]? = some (cl 5, .array .long) ∧ tys[6]? = some (cl 6, .array .boolean)
