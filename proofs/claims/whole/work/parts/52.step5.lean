/-! The law's rounds: zone. By program (wip/whole/m_step5.py). -/
theorem zBad_end {n : Nat} {f : Nat → Int32} (h : zBad n f = false) : (zEnd n f).2 = false := by
  unfold zBad at h
  cases hq : (zEnd n f).2 with
  | false => rfl
  | true => rw [hq] at h; simp at h
theorem zS2_off {n : Nat} {f : Nat → Int32} (h : (zS2 n f).2.2 = false) : -840 ≤ zOff n f ∧ zOff n f ≤ 840 := by
  obtain ⟨-, h1, h2⟩ := zNum_ok (show (zNum n f 0 840 (zByte n f (if zPk n f 0 = 45 then 45 else 43) (0, false))).2.2 = false from h)
  have h1 : 0 ≤ (zS2 n f).1 := h1
  have h2 : (zS2 n f).1 ≤ 840 := h2
  unfold zOff
  split <;> omega
theorem zAll_0 {n : Nat} {f : Nat → Int32} (h : zBad n f = false) (hm : zMore n f = false) : -840 ≤ zOff n f ∧ zOff n f ≤ 840 ∧ zSave n f = 0 := by
  have he := zBad_end h
  have e : zEnd n f = (zS2 n f).2 := by unfold zEnd; rw [hm]; rfl
  rw [e] at he
  have := zS2_off he
  exact ⟨this.1, this.2, by unfold zSave; rw [hm]; rfl⟩
theorem zAll_1 {n : Nat} {f : Nat → Int32} (h : zBad n f = false) (hm : zMore n f = true) : -840 ≤ zOff n f ∧ zOff n f ≤ 840 ∧ 1 ≤ zSave n f ∧ zSave n f ≤ 120 ∧ uOk (zR1 n f).1 ∧ uOk (zR2 n f).1 := by
  have he := zBad_end h
  have e : zEnd n f = (zR2 n f).2 := by unfold zEnd; rw [hm]; rfl
  rw [e] at he
  obtain ⟨k1, k2⟩ := zRu_ok (n := n) (f := f) (z := zBl n f (zR1 n f).2) he
  obtain ⟨k3, k4⟩ := zRu_ok (n := n) (f := f) (z := zBl n f (zS4 n f).2) (zBl_ok k1)
  obtain ⟨k5, k6, k7⟩ := zNum_ok (n := n) (f := f) (lo := 1) (hi := 120) (z := zBl n f (zS2 n f).2) (zBl_ok k3)
  have := zS2_off (zBl_ok k5)
  have e2 : zSave n f = (zS4 n f).1 := by unfold zSave; rw [hm]; rfl
  rw [e2]
  exact ⟨this.1, this.2, k6, k7, k4, k2⟩
theorem upd_updN0 {F : Nat → Nat} {k : Nat} : upd (fun j => iI (F j : Int)) k (iI 0) = fun j => iI ((updF F k 0 j : Nat) : Int) := upd_updN (x := 0)
/-- a zone without summer read anew -/
theorem LI_upd0 {bp bp' : Int} {nn nn' : Nat} {off sv : Nat → Int} {B E : Nat → RU} {cN : Nat → Nat} {eF : Nat → Nat → Int} {gF : Nat → Nat → Bool} {zi : Nat} {o v : Int} {b e : RU} {c : Nat} (h : LI bp nn off sv B E cN eF gF) (hn : nn' ≤ 400) (hb1 : -1 ≤ bp') (hb2 : bp' ≤ 400) (hr : zRel o v b e c (eF zi) (gF zi)) :
    LI bp' nn' (updF off zi o) (updF sv zi v) (updF B zi b) (updF E zi e) (updF cN zi c) eF gF := by
  refine ⟨hn, fun k hk => ?_, h.2.2.1, hb1, hb2⟩
  by_cases q : k = zi
  · subst q; simp only [updF_at]; exact hr
  · simp only [updF_ne q]; exact h.2.1 k hk
set_option maxHeartbeats 4000000 in
set_option maxRecDepth 100000 in
theorem st_zone {p : Program} {l : Launch} {e : Env} {s : State} {m : MethodId} {below : List Frame} {meth : Method} {c : Code} {b L : Nat} {xs : Nat → Int32} {D : va_G} {tys : List (ClassId × FieldType)} {aS : Nat} {ad : Nat → Nat} {cl : Nat → ClassId} {aZ : Nat → Nat} {bZ : Nat → Nat} {eZ : Nat → Nat} {eR : Nat → Nat} {gR : Nat → Nat} {bp : Int} {nn : Nat} {i1 : Nat} {bk : Bool} {f : Nat → Int32} {doff : Int} {dsv : Int} {dm : RU} {dn : RU} {off : Nat → Int} {sv : Nat → Int} {B : Nat → RU} {E : Nat → RU} {fa : Int} {yr : Int} {mn : Int} {dy : Int} {i2 : Nat} {cN : Nat → Nat} {eF : Nat → Nat → Int} {gF : Nat → Nat → Bool} {rr : Nat → Int32} {fF : Nat → Int64} {oF : Nat → Int64} {i cells slots : Nat} {H : Heap} {locs : List Loc} {ls : Array Slot} {Q : State → Prop} (C0 : LC p l s m meth c b L xs D tys cl aS) (hLI : LI bp nn off sv B E cN eF gF) (hi : i + 6 ≤ L) (hcl : cells ≤ 600000) (hsl : slots ≤ 7000000) (hP : va_P D vwCl (LW ad cl aZ bZ eZ eR gR bp nn i1 bk f doff dsv dm dn off sv B E fa yr mn dy i2 cN eF gF rr fF oF bp nn f off sv) H) (hD : va_D (fun q => s.heap.size ≤ q) (LW ad cl aZ bZ eZ eR gR bp nn i1 bk f doff dsv dm dn off sv B E fa yr mn dy i2 cN eF gF rr fF oF bp nn f off sv)) (hS : va_S (fun q => s.heap.size ≤ q) s.heap H locs) (hl : lv_has ls 8 [(4, .int (iI (i : Int))), (0, .ref b), (1, .ref (ad 0)), (2, .ref (ad 7)), (3, .ref (ad 16))]) (kk : LK p l e s m below meth c b D ad cl aZ bZ eZ eR gR i (cells + 2) (slots + 12) Q) : W p l e room_1 s m #[.ref b] below meth c H locs cells slots Q (F0 m 252 ls []) := by
  obtain ⟨hx, hb, hr, hml, hown, hlk, hk, hK, hZ, hN, hXs, hbl, hL, hoff, hty, hI, hJ, hG, htz, hJJ, hGG⟩ := C0
  have hAS : ∀ q, s.heap.size ≤ q → q ≠ aS := fun q h => by have := hZ.2.2; omega
  have hbA : ¬ s.heap.size ≤ b := by omega
  have gbp := hLI.2.2.2
  have gnn := hLI.1
  have gze := zEnd_b nn f
  by_cases hz : 0 ≤ (xs (i + 1)).toInt ∧ (xs (i + 1)).toInt < 8
  · skip
    obtain ⟨zi, hzi⟩ : ∃ zi : Nat, (xs (i + 1)).toInt = (zi : Int) := ⟨((xs (i + 1)).toInt).toNat, by omega⟩
    have gz : zi < 8 := by omega
    rcases Bool.eq_false_or_eq_true (zBad nn f) with gq | gq
    · skip
      refine lv_aload_n hx hb d_Law_law_252 rfl (lv_at hl 2 rfl) ?_
      refine lv_aload_n hx hb d_Law_law_253 rfl (lv_at hl 1 rfl) ?_
      refine lv_iload hx hb d_Law_law_254 (lv_at hl 0 rfl) ?_
      refine lv_iconst (v := iI 1) hx hb d_Law_law_256 rfl ?_
      refine ri_iadd hx hb d_Law_law_257 ?_
      refine ri_i (show ((i : Int)) + 1 = ((i + 1 : Nat) : Int) from by omega) ?_
      refine va_sld hx hb hXs hbl hbA hS (ix_in (i := i + 1) (by omega) (by omega)) d_Law_law_258 ?_
      rw [ix_cl (i := i + 1) (by omega)]
      have g1 := i32_b (xs (i + 1))
      refine ri_v (congrArg Value.int (iI_of (xs (i + 1))).symm) ?_
      refine ri_i hzi ?_
      refine t_call (t_runS (rest := []) hx hb (hml.trans hl.1.symm) hown hk hK k_Law_66 (ct_Law_zone_u l D tys aS hoff (ad 0) (ad 1) (ad 3) (ad 6) bp (cl 4) aZ zi (ad 2) (cl 0) nn i1 bk f (ad 4) (ad 5) doff dsv dm.1 dm.2.1 dm.2.2.1 dm.2.2.2 dn.1 dn.2.1 dn.2.2.1 dn.2.2.2 (bZ zi) (eZ zi) (off zi) (sv zi) ((B zi).1) ((B zi).2.1) ((B zi).2.2.1) ((B zi).2.2.2) ((E zi).1) ((E zi).2.1) ((E zi).2.2.1) ((E zi).2.2.2) htz hty gz hLI.1 gq) (w_subP (is := [0, 6, 1, 2, 3, 4, 5, 7 + 3 * zi, 8 + 3 * zi, 9 + 3 * zi]) hP (by rcases z8 gz with rfl | rfl | rfl | rfl | rfl | rfl | rfl | rfl <;> rfl)) ((hD.sub [0, 6, 1, 2, 3, 4, 5, 7 + 3 * zi, 8 + 3 * zi, 9 + 3 * zi] (by rcases z8 gz with rfl | rfl | rfl | rfl | rfl | rfl | rfl | rfl <;> rfl) (by rcases z8 gz with rfl | rfl | rfl | rfl | rfl | rfl | rfl | rfl <;> rfl)).weaken (fun _ q _ h => hAS q.1 h)) (hZ.kept (hS.2.1 aS hZ.2.2 (fun h => hAS aS h rfl))) hN rfl rfl ⟨by decide, by decide, by show cells + 1 ≤ 601024; omega, by show slots + 6 ≤ 7293034; omega⟩ (Nat.le_of_ble_eq_true rfl) d_Law_law_259) hP hD hS [0, 6, 1, 2, 3, 4, 5, 7 + 3 * zi, 8 + 3 * zi, 9 + 3 * zi] (by rcases z8 gz with rfl | rfl | rfl | rfl | rfl | rfl | rfl | rfl <;> rfl) (fun w1 H locs hw hP hD hS => ?_)
      subst hw
      rw [zPlace_bad gq] at hP hD
      have hP : va_P D vwCl (LW ad cl aZ bZ eZ eR gR ((((zEnd nn f).1 : Nat) : Int)) 0 ((zEnd nn f).1) (zBad nn f) f (zOff nn f) (zSave nn f) ((rsel (zMore nn f) (zR1 nn f).1 (dm.1, dm.2.1, dm.2.2.1, dm.2.2.2))) ((rsel (zMore nn f) (zR2 nn f).1 (dn.1, dn.2.1, dn.2.2.1, dn.2.2.2))) off sv B E fa yr mn dy i2 cN eF gF rr fF oF bp nn f off sv) H := by rcases z8 gz with rfl | rfl | rfl | rfl | rfl | rfl | rfl | rfl <;> exact hP
      have hD : va_D (fun q => s.heap.size ≤ q) (LW ad cl aZ bZ eZ eR gR ((((zEnd nn f).1 : Nat) : Int)) 0 ((zEnd nn f).1) (zBad nn f) f (zOff nn f) (zSave nn f) ((rsel (zMore nn f) (zR1 nn f).1 (dm.1, dm.2.1, dm.2.2.1, dm.2.2.2))) ((rsel (zMore nn f) (zR2 nn f).1 (dn.1, dn.2.1, dn.2.2.1, dn.2.2.2))) off sv B E fa yr mn dy i2 cN eF gF rr fF oF bp nn f off sv) := by rcases z8 gz with rfl | rfl | rfl | rfl | rfl | rfl | rfl | rfl <;> exact hD
      refine lv_istore (lv' := [(5, .int (iI 2)), (4, .int (iI ((i : Int)))), (0, .ref b), (1, .ref (ad 0)), (2, .ref (ad 7)), (3, .ref (ad 16))]) hx hb d_Law_law_262 hl (by decide) rfl (fun ls hl => ?_)
      refine lv_aload_n hx hb d_Law_law_264 rfl (lv_at hl 4 rfl) ?_
      refine lv_aload_n hx hb d_Law_law_265 rfl (lv_at hl 2 rfl) ?_
      refine lv_iload hx hb d_Law_law_266 (lv_at hl 1 rfl) ?_
      refine lv_iconst (v := iI 1) hx hb d_Law_law_268 rfl ?_
      refine ri_iadd hx hb d_Law_law_269 ?_
      refine ri_i (show ((i : Int)) + 1 = ((i + 1 : Nat) : Int) from by omega) ?_
      refine va_sld hx hb hXs hbl hbA hS (ix_in (i := i + 1) (by omega) (by omega)) d_Law_law_270 ?_
      rw [ix_cl (i := i + 1) (by omega)]
      have g1 := i32_b (xs (i + 1))
      refine ri_v (congrArg Value.int (iI_of (xs (i + 1))).symm) ?_
      refine ri_i hzi ?_
      refine t_call (t_runV (rest := []) (q0 := 0) hx hb (hml.trans hl.1.symm) hown hk hK k_Law_69 (ct_Ref_zone_u l D tys aS hoff (ad 7) (ad 8) (ad 9) (ad 10) (ad 11) (ad 12) (ad 13) (ad 14) (ad 15) fa nn bp yr mn dy i2 (cl 0) f (cl 1) rr zi hty hI hLI.1 gq gz) (w_subP (is := [31, 32, 54]) hP rfl) ((hD.sub [31, 32, 54] rfl rfl).weaken (fun _ q _ h => hAS q.1 h)) (hZ.kept (hS.2.1 aS hZ.2.2 (fun h => hAS aS h rfl))) hN rfl rfl rfl rfl ⟨by decide, by decide, by show cells + 1 + 1 ≤ 601024; omega, by show slots + 6 + 6 ≤ 7293034; omega⟩ (Nat.le_of_ble_eq_true rfl) d_Law_law_271) hP hD hS [31, 32, 54] rfl (fun w1 H locs hw hP hD hS => ?_)
      obtain ⟨a_, r_, rfl⟩ := hw
      have hP : va_P D vwCl (LW ad cl aZ bZ eZ eR gR ((((zEnd nn f).1 : Nat) : Int)) 0 ((zEnd nn f).1) (zBad nn f) f (zOff nn f) (zSave nn f) ((rsel (zMore nn f) (zR1 nn f).1 (dm.1, dm.2.1, dm.2.2.1, dm.2.2.2))) ((rsel (zMore nn f) (zR2 nn f).1 (dn.1, dn.2.1, dn.2.2.1, dn.2.2.2))) off sv B E 2 yr mn dy a_ cN eF gF r_ fF oF ((((zEnd nn f).1 : Nat) : Int)) 0 f off sv) H := hP
      have hD : va_D (fun q => s.heap.size ≤ q) (LW ad cl aZ bZ eZ eR gR ((((zEnd nn f).1 : Nat) : Int)) 0 ((zEnd nn f).1) (zBad nn f) f (zOff nn f) (zSave nn f) ((rsel (zMore nn f) (zR1 nn f).1 (dm.1, dm.2.1, dm.2.2.1, dm.2.2.2))) ((rsel (zMore nn f) (zR2 nn f).1 (dn.1, dn.2.1, dn.2.2.1, dn.2.2.2))) off sv B E 2 yr mn dy a_ cN eF gF r_ fF oF ((((zEnd nn f).1 : Nat) : Int)) 0 f off sv) := hD
      refine lv_aload_n hx hb d_Law_law_274 rfl (lv_at hl 4 rfl) ?_
      refine p_callV (rest := []) (q0 := 0) hx hb (hml.trans hl.1.symm) hown hk hK k_Law_58 (ct_Ref_thrown l D tys (ad 7) (ad 8) (ad 9) (ad 10) (ad 11) (ad 12) (ad 13) (ad 14) (ad 15) 2 0 ((((zEnd nn f).1 : Nat) : Int)) yr mn dy a_ ) (w_subP (is := [31]) hP rfl) (w_subD (is := [31]) hD rfl rfl) rfl rfl rfl rfl ⟨rfl, rfl⟩ ⟨by decide, by decide, by show cells + 1 + 1 + 0 ≤ 601024; omega, by show slots + 6 + 6 + 0 ≤ 7293034; omega⟩ (Nat.le_of_ble_eq_true rfl) d_Law_law_275 ?_
      refine lv_iload hx hb d_Law_law_278 (lv_at hl 0 rfl) ?_
      refine ri_icmp_eq (tgt := 285) hx hb d_Law_law_280 (by decide) (fun h280 => ?_) (fun h280 => ?_)
      · refine lv_goto (tgt := 866) hx hb d_Law_law_285 (by decide) ?_
        refine W.widen (k := cells + 2) (n := slots + 12) (by omega) (by omega) ?_
        exact kk ((((zEnd nn f).1 : Nat) : Int)) 0 ((zEnd nn f).1) (zBad nn f) _ (zOff nn f) (zSave nn f) ((rsel (zMore nn f) (zR1 nn f).1 (dm.1, dm.2.1, dm.2.2.1, dm.2.2.2))) ((rsel (zMore nn f) (zR2 nn f).1 (dn.1, dn.2.1, dn.2.2.1, dn.2.2.2))) _ _ _ _ 2 _ _ _ a_ _ _ _ r_ _ _ H locs ls ⟨by omega, hLI.2.1, hLI.2.2.1, by omega, by omega⟩ hP hD hS (lv_sub hl [1, 2, 3, 4, 5] rfl)
      · exfalso; exact h280 rfl
    · skip
      rcases Bool.eq_false_or_eq_true (zMore nn f) with gmore | gmore
      · skip
        obtain ⟨ga1, ga2, ga3, ga4, ga5, ga6⟩ := zAll_1 gq gmore
        refine lv_aload_n hx hb d_Law_law_252 rfl (lv_at hl 2 rfl) ?_
        refine lv_aload_n hx hb d_Law_law_253 rfl (lv_at hl 1 rfl) ?_
        refine lv_iload hx hb d_Law_law_254 (lv_at hl 0 rfl) ?_
        refine lv_iconst (v := iI 1) hx hb d_Law_law_256 rfl ?_
        refine ri_iadd hx hb d_Law_law_257 ?_
        refine ri_i (show ((i : Int)) + 1 = ((i + 1 : Nat) : Int) from by omega) ?_
        refine va_sld hx hb hXs hbl hbA hS (ix_in (i := i + 1) (by omega) (by omega)) d_Law_law_258 ?_
        rw [ix_cl (i := i + 1) (by omega)]
        have g1 := i32_b (xs (i + 1))
        refine ri_v (congrArg Value.int (iI_of (xs (i + 1))).symm) ?_
        refine ri_i hzi ?_
        refine t_call (t_runS (rest := []) hx hb (hml.trans hl.1.symm) hown hk hK k_Law_66 (ct_Law_zone l D tys aS hoff (ad 0) (ad 1) (ad 3) (ad 6) bp (cl 4) aZ zi (ad 2) (cl 0) nn i1 bk f (ad 4) (ad 5) doff dsv dm.1 dm.2.1 dm.2.2.1 dm.2.2.2 dn.1 dn.2.1 dn.2.2.1 dn.2.2.2 (bZ zi) (eZ zi) (off zi) (sv zi) ((B zi).1) ((B zi).2.1) ((B zi).2.2.1) ((B zi).2.2.2) ((E zi).1) ((E zi).2.1) ((E zi).2.2.1) ((E zi).2.2.2) htz hty gz hLI.1 gq) (w_subP (is := [0, 6, 1, 2, 3, 4, 5, 7 + 3 * zi, 8 + 3 * zi, 9 + 3 * zi]) hP (by rcases z8 gz with rfl | rfl | rfl | rfl | rfl | rfl | rfl | rfl <;> rfl)) ((hD.sub [0, 6, 1, 2, 3, 4, 5, 7 + 3 * zi, 8 + 3 * zi, 9 + 3 * zi] (by rcases z8 gz with rfl | rfl | rfl | rfl | rfl | rfl | rfl | rfl <;> rfl) (by rcases z8 gz with rfl | rfl | rfl | rfl | rfl | rfl | rfl | rfl <;> rfl)).weaken (fun _ q _ h => hAS q.1 h)) (hZ.kept (hS.2.1 aS hZ.2.2 (fun h => hAS aS h rfl))) hN rfl rfl ⟨by decide, by decide, by show cells + 0 ≤ 601024; omega, by show slots + 0 ≤ 7293034; omega⟩ (Nat.le_of_ble_eq_true rfl) d_Law_law_259) hP hD hS [0, 6, 1, 2, 3, 4, 5, 7 + 3 * zi, 8 + 3 * zi, 9 + 3 * zi] (by rcases z8 gz with rfl | rfl | rfl | rfl | rfl | rfl | rfl | rfl <;> rfl) (fun w1 H locs hw hP hD hS => ?_)
        subst hw
        have hP : va_P D vwCl (LW ad cl aZ bZ eZ eR gR (-1) 0 ((zEnd nn f).1) (zBad nn f) f (zOff nn f) (zSave nn f) ((rsel (zMore nn f) (zR1 nn f).1 (dm.1, dm.2.1, dm.2.2.1, dm.2.2.2))) ((rsel (zMore nn f) (zR2 nn f).1 (dn.1, dn.2.1, dn.2.2.1, dn.2.2.2))) (updF off zi (zOff nn f)) (updF sv zi (zSave nn f)) (updF B zi ((rsel (zMore nn f) (zR1 nn f).1 (dm.1, dm.2.1, dm.2.2.1, dm.2.2.2)))) (updF E zi ((rsel (zMore nn f) (zR2 nn f).1 (dn.1, dn.2.1, dn.2.2.1, dn.2.2.2)))) fa yr mn dy i2 cN eF gF rr fF oF bp nn f off sv) H := by rcases z8 gz with rfl | rfl | rfl | rfl | rfl | rfl | rfl | rfl <;> exact hP
        have hD : va_D (fun q => s.heap.size ≤ q) (LW ad cl aZ bZ eZ eR gR (-1) 0 ((zEnd nn f).1) (zBad nn f) f (zOff nn f) (zSave nn f) ((rsel (zMore nn f) (zR1 nn f).1 (dm.1, dm.2.1, dm.2.2.1, dm.2.2.2))) ((rsel (zMore nn f) (zR2 nn f).1 (dn.1, dn.2.1, dn.2.2.1, dn.2.2.2))) (updF off zi (zOff nn f)) (updF sv zi (zSave nn f)) (updF B zi ((rsel (zMore nn f) (zR1 nn f).1 (dm.1, dm.2.1, dm.2.2.1, dm.2.2.2)))) (updF E zi ((rsel (zMore nn f) (zR2 nn f).1 (dn.1, dn.2.1, dn.2.2.1, dn.2.2.2)))) fa yr mn dy i2 cN eF gF rr fF oF bp nn f off sv) := by rcases z8 gz with rfl | rfl | rfl | rfl | rfl | rfl | rfl | rfl <;> exact hD
        refine lv_istore (lv' := [(5, .int (iI 0)), (4, .int (iI ((i : Int)))), (0, .ref b), (1, .ref (ad 0)), (2, .ref (ad 7)), (3, .ref (ad 16))]) hx hb d_Law_law_262 hl (by decide) rfl (fun ls hl => ?_)
        refine lv_aload_n hx hb d_Law_law_264 rfl (lv_at hl 4 rfl) ?_
        refine lv_aload_n hx hb d_Law_law_265 rfl (lv_at hl 2 rfl) ?_
        refine lv_iload hx hb d_Law_law_266 (lv_at hl 1 rfl) ?_
        refine lv_iconst (v := iI 1) hx hb d_Law_law_268 rfl ?_
        refine ri_iadd hx hb d_Law_law_269 ?_
        refine ri_i (show ((i : Int)) + 1 = ((i + 1 : Nat) : Int) from by omega) ?_
        refine va_sld hx hb hXs hbl hbA hS (ix_in (i := i + 1) (by omega) (by omega)) d_Law_law_270 ?_
        rw [ix_cl (i := i + 1) (by omega)]
        have g1 := i32_b (xs (i + 1))
        refine ri_v (congrArg Value.int (iI_of (xs (i + 1))).symm) ?_
        refine ri_i hzi ?_
        refine t_call (t_runV (rest := []) (q0 := 0) hx hb (hml.trans hl.1.symm) hown hk hK k_Law_69 (ct_Ref_zone l D tys aS hoff (ad 7) (ad 8) (ad 9) (ad 10) (ad 11) (ad 12) (ad 13) (ad 14) (ad 15) fa nn bp yr mn dy i2 (cl 0) f (cl 1) (cl 2) (cl 3) (cl 5) (cl 6) rr (fun j => iI (off j)) (fun j => iI (sv j)) (fun j => iI (cN j : Int)) eR gR zi (eF zi) (gF zi) hty hI hJ hG hJJ hGG hLI.1 gz gq gmore (hLI.2.2.1 zi gz)) (w_subP (is := [31, 32, 54, 33, 34, 53, 35, 44, 36 + zi, 45 + zi]) hP (by rcases z8 gz with rfl | rfl | rfl | rfl | rfl | rfl | rfl | rfl <;> rfl)) ((hD.sub [31, 32, 54, 33, 34, 53, 35, 44, 36 + zi, 45 + zi] (by rcases z8 gz with rfl | rfl | rfl | rfl | rfl | rfl | rfl | rfl <;> rfl) (by rcases z8 gz with rfl | rfl | rfl | rfl | rfl | rfl | rfl | rfl <;> rfl)).weaken (fun _ q _ h => hAS q.1 h)) (hZ.kept (hS.2.1 aS hZ.2.2 (fun h => hAS aS h rfl))) hN rfl rfl rfl rfl ⟨by decide, by decide, by show cells + 0 ≤ 601024; omega, by show slots + 0 ≤ 7293034; omega⟩ (Nat.le_of_ble_eq_true rfl) d_Law_law_271) hP hD hS [31, 32, 54, 33, 34, 53, 35, 44, 36 + zi, 45 + zi] (by rcases z8 gz with rfl | rfl | rfl | rfl | rfl | rfl | rfl | rfl <;> rfl) (fun w1 H locs hw hP hD hS => ?_)
        subst hw
        obtain ⟨EZ, hEZ⟩ : ∃ y, y = (evZE (zOff nn f) (zSave nn f) (zR1 nn f).1 (zR2 nn f).1 (eF zi) (gF zi) 330).1 := ⟨_, rfl⟩
        obtain ⟨GZ, hGZ⟩ : ∃ y, y = (evZE (zOff nn f) (zSave nn f) (zR1 nn f).1 (zR2 nn f).1 (eF zi) (gF zi) 330).2 := ⟨_, rfl⟩
        rw [upd_updF (F := off), upd_updF (F := sv), upd_updN (F := cN) (x := 660), ← hEZ, ← hGZ] at hP hD
        have hP : va_P D vwCl (LW ad cl aZ bZ eZ eR gR (-1) 0 ((zEnd nn f).1) (zBad nn f) f (zOff nn f) (zSave nn f) ((rsel (zMore nn f) (zR1 nn f).1 (dm.1, dm.2.1, dm.2.2.1, dm.2.2.2))) ((rsel (zMore nn f) (zR2 nn f).1 (dn.1, dn.2.1, dn.2.2.1, dn.2.2.2))) (updF off zi (zOff nn f)) (updF sv zi (zSave nn f)) (updF B zi ((rsel (zMore nn f) (zR1 nn f).1 (dm.1, dm.2.1, dm.2.2.1, dm.2.2.2)))) (updF E zi ((rsel (zMore nn f) (zR2 nn f).1 (dn.1, dn.2.1, dn.2.2.1, dn.2.2.2)))) 0 yr mn dy ((zEnd nn f).1) (updF cN zi 660) (updF eF zi EZ) (updF gF zi GZ) (ruPut (ruPut rr 0 (zR1 nn f).1) 4 (zR2 nn f).1) fF oF (-1) 0 f (updF off zi (zOff nn f)) (updF sv zi (zSave nn f))) H := by rcases z8 gz with rfl | rfl | rfl | rfl | rfl | rfl | rfl | rfl <;> exact hP
        have hD : va_D (fun q => s.heap.size ≤ q) (LW ad cl aZ bZ eZ eR gR (-1) 0 ((zEnd nn f).1) (zBad nn f) f (zOff nn f) (zSave nn f) ((rsel (zMore nn f) (zR1 nn f).1 (dm.1, dm.2.1, dm.2.2.1, dm.2.2.2))) ((rsel (zMore nn f) (zR2 nn f).1 (dn.1, dn.2.1, dn.2.2.1, dn.2.2.2))) (updF off zi (zOff nn f)) (updF sv zi (zSave nn f)) (updF B zi ((rsel (zMore nn f) (zR1 nn f).1 (dm.1, dm.2.1, dm.2.2.1, dm.2.2.2)))) (updF E zi ((rsel (zMore nn f) (zR2 nn f).1 (dn.1, dn.2.1, dn.2.2.1, dn.2.2.2)))) 0 yr mn dy ((zEnd nn f).1) (updF cN zi 660) (updF eF zi EZ) (updF gF zi GZ) (ruPut (ruPut rr 0 (zR1 nn f).1) 4 (zR2 nn f).1) fF oF (-1) 0 f (updF off zi (zOff nn f)) (updF sv zi (zSave nn f))) := by rcases z8 gz with rfl | rfl | rfl | rfl | rfl | rfl | rfl | rfl <;> exact hD
        refine lv_aload_n hx hb d_Law_law_274 rfl (lv_at hl 4 rfl) ?_
        refine p_callV (rest := []) (q0 := 0) hx hb (hml.trans hl.1.symm) hown hk hK k_Law_58 (ct_Ref_thrown l D tys (ad 7) (ad 8) (ad 9) (ad 10) (ad 11) (ad 12) (ad 13) (ad 14) (ad 15) 0 0 (-1) yr mn dy ((zEnd nn f).1) ) (w_subP (is := [31]) hP rfl) (w_subD (is := [31]) hD rfl rfl) rfl rfl rfl rfl ⟨rfl, rfl⟩ ⟨by decide, by decide, by show cells + 0 ≤ 601024; omega, by show slots + 0 ≤ 7293034; omega⟩ (Nat.le_of_ble_eq_true rfl) d_Law_law_275 ?_
        refine lv_iload hx hb d_Law_law_278 (lv_at hl 0 rfl) ?_
        refine ri_icmp_eq (tgt := 285) hx hb d_Law_law_280 (by decide) (fun h280 => ?_) (fun h280 => ?_)
        · refine lv_goto (tgt := 866) hx hb d_Law_law_285 (by decide) ?_
          refine W.widen (k := cells + 2) (n := slots + 12) (by omega) (by omega) ?_
          exact kk (-1) 0 ((zEnd nn f).1) (zBad nn f) _ (zOff nn f) (zSave nn f) ((rsel (zMore nn f) (zR1 nn f).1 (dm.1, dm.2.1, dm.2.2.1, dm.2.2.2))) ((rsel (zMore nn f) (zR2 nn f).1 (dn.1, dn.2.1, dn.2.2.1, dn.2.2.2))) (updF off zi (zOff nn f)) (updF sv zi (zSave nn f)) (updF B zi ((rsel (zMore nn f) (zR1 nn f).1 (dm.1, dm.2.1, dm.2.2.1, dm.2.2.2)))) (updF E zi ((rsel (zMore nn f) (zR2 nn f).1 (dn.1, dn.2.1, dn.2.2.1, dn.2.2.2)))) 0 _ _ _ ((zEnd nn f).1) (updF cN zi 660) (updF eF zi EZ) (updF gF zi GZ) (ruPut (ruPut rr 0 (zR1 nn f).1) 4 (zR2 nn f).1) _ _ H locs ls (LI_upd hLI (by omega) (by omega) (by omega) (by rw [gmore, hEZ, hGZ]; exact evRun_rel (b := (zR1 nn f).1) (e := (zR2 nn f).1) ga1 ga2 ga3 ga4 ga5 ga6) (by rw [hEZ]; exact evRun_bd (Bv := bV (zR1 nn f).1 (zOff nn f)) (Ev := bV (zR2 nn f).1 (zOff nn f + zSave nn f)) (F := eF zi) (G := gF zi) (hLI.2.2.1 zi gz) (bV_bd (sh := zOff nn f) ga5 (by omega) (by omega)) (bV_bd (sh := zOff nn f + zSave nn f) ga6 (by omega) (by omega)) 330 (by omega))) hP hD hS (lv_sub hl [1, 2, 3, 4, 5] rfl)
        · exfalso; exact h280 rfl
      · skip
        obtain ⟨ga1, ga2, ga3⟩ := zAll_0 gq gmore
        refine lv_aload_n hx hb d_Law_law_252 rfl (lv_at hl 2 rfl) ?_
        refine lv_aload_n hx hb d_Law_law_253 rfl (lv_at hl 1 rfl) ?_
        refine lv_iload hx hb d_Law_law_254 (lv_at hl 0 rfl) ?_
        refine lv_iconst (v := iI 1) hx hb d_Law_law_256 rfl ?_
        refine ri_iadd hx hb d_Law_law_257 ?_
        refine ri_i (show ((i : Int)) + 1 = ((i + 1 : Nat) : Int) from by omega) ?_
        refine va_sld hx hb hXs hbl hbA hS (ix_in (i := i + 1) (by omega) (by omega)) d_Law_law_258 ?_
        rw [ix_cl (i := i + 1) (by omega)]
        have g1 := i32_b (xs (i + 1))
        refine ri_v (congrArg Value.int (iI_of (xs (i + 1))).symm) ?_
        refine ri_i hzi ?_
        refine t_call (t_runS (rest := []) hx hb (hml.trans hl.1.symm) hown hk hK k_Law_66 (ct_Law_zone l D tys aS hoff (ad 0) (ad 1) (ad 3) (ad 6) bp (cl 4) aZ zi (ad 2) (cl 0) nn i1 bk f (ad 4) (ad 5) doff dsv dm.1 dm.2.1 dm.2.2.1 dm.2.2.2 dn.1 dn.2.1 dn.2.2.1 dn.2.2.2 (bZ zi) (eZ zi) (off zi) (sv zi) ((B zi).1) ((B zi).2.1) ((B zi).2.2.1) ((B zi).2.2.2) ((E zi).1) ((E zi).2.1) ((E zi).2.2.1) ((E zi).2.2.2) htz hty gz hLI.1 gq) (w_subP (is := [0, 6, 1, 2, 3, 4, 5, 7 + 3 * zi, 8 + 3 * zi, 9 + 3 * zi]) hP (by rcases z8 gz with rfl | rfl | rfl | rfl | rfl | rfl | rfl | rfl <;> rfl)) ((hD.sub [0, 6, 1, 2, 3, 4, 5, 7 + 3 * zi, 8 + 3 * zi, 9 + 3 * zi] (by rcases z8 gz with rfl | rfl | rfl | rfl | rfl | rfl | rfl | rfl <;> rfl) (by rcases z8 gz with rfl | rfl | rfl | rfl | rfl | rfl | rfl | rfl <;> rfl)).weaken (fun _ q _ h => hAS q.1 h)) (hZ.kept (hS.2.1 aS hZ.2.2 (fun h => hAS aS h rfl))) hN rfl rfl ⟨by decide, by decide, by show cells + 0 ≤ 601024; omega, by show slots + 0 ≤ 7293034; omega⟩ (Nat.le_of_ble_eq_true rfl) d_Law_law_259) hP hD hS [0, 6, 1, 2, 3, 4, 5, 7 + 3 * zi, 8 + 3 * zi, 9 + 3 * zi] (by rcases z8 gz with rfl | rfl | rfl | rfl | rfl | rfl | rfl | rfl <;> rfl) (fun w1 H locs hw hP hD hS => ?_)
        subst hw
        have hP : va_P D vwCl (LW ad cl aZ bZ eZ eR gR (-1) 0 ((zEnd nn f).1) (zBad nn f) f (zOff nn f) (zSave nn f) ((rsel (zMore nn f) (zR1 nn f).1 (dm.1, dm.2.1, dm.2.2.1, dm.2.2.2))) ((rsel (zMore nn f) (zR2 nn f).1 (dn.1, dn.2.1, dn.2.2.1, dn.2.2.2))) (updF off zi (zOff nn f)) (updF sv zi (zSave nn f)) (updF B zi ((rsel (zMore nn f) (zR1 nn f).1 (dm.1, dm.2.1, dm.2.2.1, dm.2.2.2)))) (updF E zi ((rsel (zMore nn f) (zR2 nn f).1 (dn.1, dn.2.1, dn.2.2.1, dn.2.2.2)))) fa yr mn dy i2 cN eF gF rr fF oF bp nn f off sv) H := by rcases z8 gz with rfl | rfl | rfl | rfl | rfl | rfl | rfl | rfl <;> exact hP
        have hD : va_D (fun q => s.heap.size ≤ q) (LW ad cl aZ bZ eZ eR gR (-1) 0 ((zEnd nn f).1) (zBad nn f) f (zOff nn f) (zSave nn f) ((rsel (zMore nn f) (zR1 nn f).1 (dm.1, dm.2.1, dm.2.2.1, dm.2.2.2))) ((rsel (zMore nn f) (zR2 nn f).1 (dn.1, dn.2.1, dn.2.2.1, dn.2.2.2))) (updF off zi (zOff nn f)) (updF sv zi (zSave nn f)) (updF B zi ((rsel (zMore nn f) (zR1 nn f).1 (dm.1, dm.2.1, dm.2.2.1, dm.2.2.2)))) (updF E zi ((rsel (zMore nn f) (zR2 nn f).1 (dn.1, dn.2.1, dn.2.2.1, dn.2.2.2)))) fa yr mn dy i2 cN eF gF rr fF oF bp nn f off sv) := by rcases z8 gz with rfl | rfl | rfl | rfl | rfl | rfl | rfl | rfl <;> exact hD
        refine lv_istore (lv' := [(5, .int (iI 0)), (4, .int (iI ((i : Int)))), (0, .ref b), (1, .ref (ad 0)), (2, .ref (ad 7)), (3, .ref (ad 16))]) hx hb d_Law_law_262 hl (by decide) rfl (fun ls hl => ?_)
        refine lv_aload_n hx hb d_Law_law_264 rfl (lv_at hl 4 rfl) ?_
        refine lv_aload_n hx hb d_Law_law_265 rfl (lv_at hl 2 rfl) ?_
        refine lv_iload hx hb d_Law_law_266 (lv_at hl 1 rfl) ?_
        refine lv_iconst (v := iI 1) hx hb d_Law_law_268 rfl ?_
        refine ri_iadd hx hb d_Law_law_269 ?_
        refine ri_i (show ((i : Int)) + 1 = ((i + 1 : Nat) : Int) from by omega) ?_
        refine va_sld hx hb hXs hbl hbA hS (ix_in (i := i + 1) (by omega) (by omega)) d_Law_law_270 ?_
        rw [ix_cl (i := i + 1) (by omega)]
        have g1 := i32_b (xs (i + 1))
        refine ri_v (congrArg Value.int (iI_of (xs (i + 1))).symm) ?_
        refine ri_i hzi ?_
        refine t_call (t_runV (rest := []) (q0 := 0) hx hb (hml.trans hl.1.symm) hown hk hK k_Law_69 (ct_Ref_zone_0 l D tys aS hoff (ad 7) (ad 8) (ad 9) (ad 10) (ad 11) (ad 12) (ad 13) (ad 14) (ad 15) fa nn bp yr mn dy i2 (cl 0) f (cl 1) (fun j => iI (off j)) (fun j => iI (sv j)) (fun j => iI (cN j : Int)) zi hty hI hLI.1 gz gq gmore) (w_subP (is := [31, 32, 33, 34, 53]) hP rfl) ((hD.sub [31, 32, 33, 34, 53] rfl rfl).weaken (fun _ q _ h => hAS q.1 h)) (hZ.kept (hS.2.1 aS hZ.2.2 (fun h => hAS aS h rfl))) hN rfl rfl rfl rfl ⟨by decide, by decide, by show cells + 0 ≤ 601024; omega, by show slots + 0 ≤ 7293034; omega⟩ (Nat.le_of_ble_eq_true rfl) d_Law_law_271) hP hD hS [31, 32, 33, 34, 53] rfl (fun w1 H locs hw hP hD hS => ?_)
        subst hw
        rw [upd_updF (F := off), upd_updF (F := sv), upd_updN0 (F := cN)] at hP hD
        have hP : va_P D vwCl (LW ad cl aZ bZ eZ eR gR (-1) 0 ((zEnd nn f).1) (zBad nn f) f (zOff nn f) (zSave nn f) ((rsel (zMore nn f) (zR1 nn f).1 (dm.1, dm.2.1, dm.2.2.1, dm.2.2.2))) ((rsel (zMore nn f) (zR2 nn f).1 (dn.1, dn.2.1, dn.2.2.1, dn.2.2.2))) (updF off zi (zOff nn f)) (updF sv zi (zSave nn f)) (updF B zi ((rsel (zMore nn f) (zR1 nn f).1 (dm.1, dm.2.1, dm.2.2.1, dm.2.2.2)))) (updF E zi ((rsel (zMore nn f) (zR2 nn f).1 (dn.1, dn.2.1, dn.2.2.1, dn.2.2.2)))) 0 yr mn dy ((zEnd nn f).1) (updF cN zi 0) eF gF rr fF oF (-1) 0 f (updF off zi (zOff nn f)) (updF sv zi (zSave nn f))) H := hP
        have hD : va_D (fun q => s.heap.size ≤ q) (LW ad cl aZ bZ eZ eR gR (-1) 0 ((zEnd nn f).1) (zBad nn f) f (zOff nn f) (zSave nn f) ((rsel (zMore nn f) (zR1 nn f).1 (dm.1, dm.2.1, dm.2.2.1, dm.2.2.2))) ((rsel (zMore nn f) (zR2 nn f).1 (dn.1, dn.2.1, dn.2.2.1, dn.2.2.2))) (updF off zi (zOff nn f)) (updF sv zi (zSave nn f)) (updF B zi ((rsel (zMore nn f) (zR1 nn f).1 (dm.1, dm.2.1, dm.2.2.1, dm.2.2.2)))) (updF E zi ((rsel (zMore nn f) (zR2 nn f).1 (dn.1, dn.2.1, dn.2.2.1, dn.2.2.2)))) 0 yr mn dy ((zEnd nn f).1) (updF cN zi 0) eF gF rr fF oF (-1) 0 f (updF off zi (zOff nn f)) (updF sv zi (zSave nn f))) := hD
        refine lv_aload_n hx hb d_Law_law_274 rfl (lv_at hl 4 rfl) ?_
        refine p_callV (rest := []) (q0 := 0) hx hb (hml.trans hl.1.symm) hown hk hK k_Law_58 (ct_Ref_thrown l D tys (ad 7) (ad 8) (ad 9) (ad 10) (ad 11) (ad 12) (ad 13) (ad 14) (ad 15) 0 0 (-1) yr mn dy ((zEnd nn f).1) ) (w_subP (is := [31]) hP rfl) (w_subD (is := [31]) hD rfl rfl) rfl rfl rfl rfl ⟨rfl, rfl⟩ ⟨by decide, by decide, by show cells + 0 ≤ 601024; omega, by show slots + 0 ≤ 7293034; omega⟩ (Nat.le_of_ble_eq_true rfl) d_Law_law_275 ?_
        refine lv_iload hx hb d_Law_law_278 (lv_at hl 0 rfl) ?_
        refine ri_icmp_eq (tgt := 285) hx hb d_Law_law_280 (by decide) (fun h280 => ?_) (fun h280 => ?_)
        · refine lv_goto (tgt := 866) hx hb d_Law_law_285 (by decide) ?_
          refine W.widen (k := cells + 2) (n := slots + 12) (by omega) (by omega) ?_
          exact kk (-1) 0 ((zEnd nn f).1) (zBad nn f) _ (zOff nn f) (zSave nn f) ((rsel (zMore nn f) (zR1 nn f).1 (dm.1, dm.2.1, dm.2.2.1, dm.2.2.2))) ((rsel (zMore nn f) (zR2 nn f).1 (dn.1, dn.2.1, dn.2.2.1, dn.2.2.2))) (updF off zi (zOff nn f)) (updF sv zi (zSave nn f)) (updF B zi ((rsel (zMore nn f) (zR1 nn f).1 (dm.1, dm.2.1, dm.2.2.1, dm.2.2.2)))) (updF E zi ((rsel (zMore nn f) (zR2 nn f).1 (dn.1, dn.2.1, dn.2.2.1, dn.2.2.2)))) 0 _ _ _ ((zEnd nn f).1) (updF cN zi 0) _ _ _ _ _ H locs ls (LI_upd0 hLI (by omega) (by omega) (by omega) ⟨ga1, ga2, Or.inl ⟨ga3, rfl⟩⟩) hP hD hS (lv_sub hl [1, 2, 3, 4, 5] rfl)
        · exfalso; exact h280 rfl
  · skip
    refine lv_aload_n hx hb d_Law_law_252 rfl (lv_at hl 2 rfl) ?_
    refine lv_aload_n hx hb d_Law_law_253 rfl (lv_at hl 1 rfl) ?_
    refine lv_iload hx hb d_Law_law_254 (lv_at hl 0 rfl) ?_
    refine lv_iconst (v := iI 1) hx hb d_Law_law_256 rfl ?_
    refine ri_iadd hx hb d_Law_law_257 ?_
    refine ri_i (show ((i : Int)) + 1 = ((i + 1 : Nat) : Int) from by omega) ?_
    refine va_sld hx hb hXs hbl hbA hS (ix_in (i := i + 1) (by omega) (by omega)) d_Law_law_258 ?_
    rw [ix_cl (i := i + 1) (by omega)]
    have g1 := i32_b (xs (i + 1))
    refine ri_v (congrArg Value.int (iI_of (xs (i + 1))).symm) ?_
    refine t_call (t_runS (rest := []) hx hb (hml.trans hl.1.symm) hown hk hK k_Law_66 (ct_Law_zone_x l D tys aS hoff (ad 0) (ad 1) (ad 3) (ad 6) bp (cl 4) aZ ((xs (i + 1)).toInt) htz (by omega) (by omega) (by omega)) (w_subP (is := [0, 6]) hP rfl) ((hD.sub [0, 6] rfl rfl).weaken (fun _ q _ h => hAS q.1 h)) (hZ.kept (hS.2.1 aS hZ.2.2 (fun h => hAS aS h rfl))) hN rfl rfl ⟨by decide, by decide, by show cells + 1 ≤ 601024; omega, by show slots + 6 ≤ 7293034; omega⟩ (Nat.le_of_ble_eq_true rfl) d_Law_law_259) hP hD hS [0, 6] rfl (fun w1 H locs hw hP hD hS => ?_)
    subst hw
    have hP : va_P D vwCl (LW ad cl aZ bZ eZ eR gR bp nn i1 bk f doff dsv dm dn off sv B E fa yr mn dy i2 cN eF gF rr fF oF bp nn f off sv) H := hP
    have hD : va_D (fun q => s.heap.size ≤ q) (LW ad cl aZ bZ eZ eR gR bp nn i1 bk f doff dsv dm dn off sv B E fa yr mn dy i2 cN eF gF rr fF oF bp nn f off sv) := hD
    refine lv_istore (lv' := [(5, .int (iI 1)), (4, .int (iI ((i : Int)))), (0, .ref b), (1, .ref (ad 0)), (2, .ref (ad 7)), (3, .ref (ad 16))]) hx hb d_Law_law_262 hl (by decide) rfl (fun ls hl => ?_)
    refine lv_aload_n hx hb d_Law_law_264 rfl (lv_at hl 4 rfl) ?_
    refine lv_aload_n hx hb d_Law_law_265 rfl (lv_at hl 2 rfl) ?_
    refine lv_iload hx hb d_Law_law_266 (lv_at hl 1 rfl) ?_
    refine lv_iconst (v := iI 1) hx hb d_Law_law_268 rfl ?_
    refine ri_iadd hx hb d_Law_law_269 ?_
    refine ri_i (show ((i : Int)) + 1 = ((i + 1 : Nat) : Int) from by omega) ?_
    refine va_sld hx hb hXs hbl hbA hS (ix_in (i := i + 1) (by omega) (by omega)) d_Law_law_270 ?_
    rw [ix_cl (i := i + 1) (by omega)]
    have g1 := i32_b (xs (i + 1))
    refine ri_v (congrArg Value.int (iI_of (xs (i + 1))).symm) ?_
    refine t_call (t_runV (rest := []) (q0 := 0) hx hb (hml.trans hl.1.symm) hown hk hK k_Law_69 (ct_Ref_zone_x l D tys aS hoff (ad 7) (ad 8) (ad 9) (ad 10) (ad 11) (ad 12) (ad 13) (ad 14) (ad 15) fa nn bp yr mn dy i2 ((xs (i + 1)).toInt) (by omega) (by omega) (by omega)) (w_subP (is := [31]) hP rfl) ((hD.sub [31] rfl rfl).weaken (fun _ q _ h => hAS q.1 h)) (hZ.kept (hS.2.1 aS hZ.2.2 (fun h => hAS aS h rfl))) hN rfl rfl rfl rfl ⟨by decide, by decide, by show cells + 1 + 0 ≤ 601024; omega, by show slots + 6 + 0 ≤ 7293034; omega⟩ (Nat.le_of_ble_eq_true rfl) d_Law_law_271) hP hD hS [31] rfl (fun w1 H locs hw hP hD hS => ?_)
    subst hw
    have hP : va_P D vwCl (LW ad cl aZ bZ eZ eR gR bp nn i1 bk f doff dsv dm dn off sv B E 1 yr mn dy i2 cN eF gF rr fF oF bp nn f off sv) H := hP
    have hD : va_D (fun q => s.heap.size ≤ q) (LW ad cl aZ bZ eZ eR gR bp nn i1 bk f doff dsv dm dn off sv B E 1 yr mn dy i2 cN eF gF rr fF oF bp nn f off sv) := hD
    refine lv_aload_n hx hb d_Law_law_274 rfl (lv_at hl 4 rfl) ?_
    refine p_callV (rest := []) (q0 := 0) hx hb (hml.trans hl.1.symm) hown hk hK k_Law_58 (ct_Ref_thrown l D tys (ad 7) (ad 8) (ad 9) (ad 10) (ad 11) (ad 12) (ad 13) (ad 14) (ad 15) 1 nn bp yr mn dy i2 ) (w_subP (is := [31]) hP rfl) (w_subD (is := [31]) hD rfl rfl) rfl rfl rfl rfl ⟨rfl, rfl⟩ ⟨by decide, by decide, by show cells + 1 + 0 ≤ 601024; omega, by show slots + 6 + 0 ≤ 7293034; omega⟩ (Nat.le_of_ble_eq_true rfl) d_Law_law_275 ?_
    refine lv_iload hx hb d_Law_law_278 (lv_at hl 0 rfl) ?_
    refine ri_icmp_eq (tgt := 285) hx hb d_Law_law_280 (by decide) (fun h280 => ?_) (fun h280 => ?_)
    · refine lv_goto (tgt := 866) hx hb d_Law_law_285 (by decide) ?_
      refine W.widen (k := cells + 2) (n := slots + 12) (by omega) (by omega) ?_
      exact kk _ _ _ _ _ _ _ _ _ _ _ _ _ 1 _ _ _ _ _ _ _ _ _ _ H locs ls hLI hP hD hS (lv_sub hl [1, 2, 3, 4, 5] rfl)
    · exfalso; exact h280 rfl
