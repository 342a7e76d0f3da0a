/-! The law's rounds. By program (wip/whole/m_step.py). -/
set_option maxHeartbeats 4000000 in
set_option maxRecDepth 100000 in
theorem st_place {p : Program} {l : Launch} {e : Env} {s : State} {m : MethodId} {below : List Frame} {meth : Method} {c : Code} {b L : Nat} {xs : Nat → Int32} {D : va_G} {tys : List (ClassId × FieldType)} {aS : Nat} {ad : Nat → Nat} {cl : Nat → ClassId} {aZ : Nat → Nat} {bZ : Nat → Nat} {eZ : Nat → Nat} {eR : Nat → Nat} {gR : Nat → Nat} {bp : Int} {nn : Nat} {i1 : Nat} {bk : Bool} {f : Nat → Int32} {doff : Int} {dsv : Int} {dm : RU} {dn : RU} {off : Nat → Int} {sv : Nat → Int} {B : Nat → RU} {E : Nat → RU} {fa : Int} {yr : Int} {mn : Int} {dy : Int} {i2 : Nat} {cN : Nat → Nat} {eF : Nat → Nat → Int} {gF : Nat → Nat → Bool} {rr : Nat → Int32} {fF : Nat → Int64} {oF : Nat → Int64} {i cells slots : Nat} {H : Heap} {locs : List Loc} {ls : Array Slot} {Q : State → Prop} (C0 : LC p l s m meth c b L xs D tys cl aS) (hLI : LI bp nn off sv B E cN eF gF) (hi : i + 6 ≤ L) (hcl : cells ≤ 600000) (hsl : slots ≤ 7000000) (hP : va_P D vwCl (LW ad cl aZ bZ eZ eR gR bp nn i1 bk f doff dsv dm dn off sv B E fa yr mn dy i2 cN eF gF rr fF oF bp nn f off sv) H) (hD : va_D (fun q => s.heap.size ≤ q) (LW ad cl aZ bZ eZ eR gR bp nn i1 bk f doff dsv dm dn off sv B E fa yr mn dy i2 cN eF gF rr fF oF bp nn f off sv)) (hS : va_S (fun q => s.heap.size ≤ q) s.heap H locs) (hl : lv_has ls 8 [(4, .int (iI (i : Int))), (0, .ref b), (1, .ref (ad 0)), (2, .ref (ad 7)), (3, .ref (ad 16))]) (kk : LK p l e s m below meth c b D ad cl aZ bZ eZ eR gR i (cells + 2) (slots + 12) Q) : W p l e room_1 s m #[.ref b] below meth c H locs cells slots Q (F0 m 853 ls []) := by
  obtain ⟨hx, hb, hr, hml, hown, hlk, hk, hK, hZ, hN, hXs, hbl, hL, hoff, hty, hI, hJ, hG, htz, hJJ, hGG⟩ := C0
  have hAS : ∀ q, s.heap.size ≤ q → q ≠ aS := fun q h => by have := hZ.2.2; omega
  have hbA : ¬ s.heap.size ≤ b := by omega
  have gbp := hLI.2.2.2
  refine lv_aload_n hx hb d_Law_law_853 rfl (lv_at hl 2 rfl) ?_
  refine p_callV (rest := []) (q0 := 0) hx hb (hml.trans hl.1.symm) hown hk hK k_Law_90 (ct_Clk_place l D tys (ad 0) (ad 1) (ad 3) (ad 6) bp (cl 4) aZ ) (w_subP (is := [0]) hP rfl) (w_subD (is := [0]) hD rfl rfl) rfl rfl rfl rfl ⟨rfl, rfl⟩ ⟨by decide, by decide, by show cells + 0 ≤ 601024; omega, by show slots + 0 ≤ 7293034; omega⟩ (Nat.le_of_ble_eq_true rfl) d_Law_law_854 ?_
  refine lv_aload_n hx hb d_Law_law_857 rfl (lv_at hl 3 rfl) ?_
  refine m_callV (rest := [.int (iI bp)]) (q0 := 0) hx hb (hml.trans hl.1.symm) hown hk hK k_Law_93 (ct_Ref_place l D tys (ad 7) (ad 8) (ad 9) (ad 10) (ad 11) (ad 12) (ad 13) (ad 14) (ad 15) fa nn bp yr mn dy i2 ) hP hD hS [31] rfl rfl rfl rfl rfl rfl rfl ⟨rfl, rfl⟩ ⟨by decide, by decide, by show cells + 0 ≤ 601024; omega, by show slots + 0 ≤ 7293034; omega⟩ (Nat.le_of_ble_eq_true rfl) d_Law_law_858 (fun H locs hP hD hS => ?_)
  have hP : va_P D vwCl (LW ad cl aZ bZ eZ eR gR bp nn i1 bk f doff dsv dm dn off sv B E 0 yr mn dy i2 cN eF gF rr fF oF bp nn f off sv) H := hP
  have hD : va_D (fun q => s.heap.size ≤ q) (LW ad cl aZ bZ eZ eR gR bp nn i1 bk f doff dsv dm dn off sv B E 0 yr mn dy i2 cN eF gF rr fF oF bp nn f off sv) := hD
  refine ri_icmp_eq (tgt := 866) hx hb d_Law_law_861 (by decide) (fun h861 => ?_) (fun h861 => ?_)
  · refine W.widen (k := cells + 2) (n := slots + 12) (by omega) (by omega) ?_
    exact kk _ _ _ _ _ _ _ _ _ _ _ _ _ 0 _ _ _ _ _ _ _ _ _ _ H locs ls hLI hP hD hS (lv_sub hl [0, 1, 2, 3, 4] rfl)
  · exfalso; exact h861 rfl
set_option maxHeartbeats 4000000 in
set_option maxRecDepth 100000 in
theorem st_local {p : Program} {l : Launch} {e : Env} {s : State} {m : MethodId} {below : List Frame} {meth : Method} {c : Code} {b L : Nat} {xs : Nat → Int32} {D : va_G} {tys : List (ClassId × FieldType)} {aS : Nat} {ad : Nat → Nat} {cl : Nat → ClassId} {aZ : Nat → Nat} {bZ : Nat → Nat} {eZ : Nat → Nat} {eR : Nat → Nat} {gR : Nat → Nat} {bp : Int} {nn : Nat} {i1 : Nat} {bk : Bool} {f : Nat → Int32} {doff : Int} {dsv : Int} {dm : RU} {dn : RU} {off : Nat → Int} {sv : Nat → Int} {B : Nat → RU} {E : Nat → RU} {fa : Int} {yr : Int} {mn : Int} {dy : Int} {i2 : Nat} {cN : Nat → Nat} {eF : Nat → Nat → Int} {gF : Nat → Nat → Bool} {rr : Nat → Int32} {fF : Nat → Int64} {oF : Nat → Int64} {i cells slots : Nat} {H : Heap} {locs : List Loc} {ls : Array Slot} {Q : State → Prop} (C0 : LC p l s m meth c b L xs D tys cl aS) (hLI : LI bp nn off sv B E cN eF gF) (hi : i + 6 ≤ L) (hcl : cells ≤ 600000) (hsl : slots ≤ 7000000) (hP : va_P D vwCl (LW ad cl aZ bZ eZ eR gR bp nn i1 bk f doff dsv dm dn off sv B E fa yr mn dy i2 cN eF gF rr fF oF bp nn f off sv) H) (hD : va_D (fun q => s.heap.size ≤ q) (LW ad cl aZ bZ eZ eR gR bp nn i1 bk f doff dsv dm dn off sv B E fa yr mn dy i2 cN eF gF rr fF oF bp nn f off sv)) (hS : va_S (fun q => s.heap.size ≤ q) s.heap H locs) (hl : lv_has ls 8 [(4, .int (iI (i : Int))), (0, .ref b), (1, .ref (ad 0)), (2, .ref (ad 7)), (3, .ref (ad 16))]) (kk : LK p l e s m below meth c b D ad cl aZ bZ eZ eR gR i (cells + 2) (slots + 12) Q) : W p l e room_1 s m #[.ref b] below meth c H locs cells slots Q (F0 m 288 ls []) := by
  obtain ⟨hx, hb, hr, hml, hown, hlk, hk, hK, hZ, hN, hXs, hbl, hL, hoff, hty, hI, hJ, hG, htz, hJJ, hGG⟩ := C0
  have hAS : ∀ q, s.heap.size ≤ q → q ≠ aS := fun q h => by have := hZ.2.2; omega
  have hbA : ¬ s.heap.size ≤ b := by omega
  have gbp := hLI.2.2.2
  have gt := tm_b xs i
  have g4 := i32_b (xs (i + 4))
  by_cases hz : (0 ≤ (xs (i + 1)).toInt ∧ (xs (i + 1)).toInt < 8) ∧ (0 ≤ tm xs i ∧ tm xs i ≤ 10413791999999)
  · obtain ⟨⟨z1, z2⟩, ⟨gt1, gt2⟩⟩ := hz
    obtain ⟨zi, hzi⟩ : ∃ zi : Nat, (xs (i + 1)).toInt = (zi : Int) := ⟨((xs (i + 1)).toInt).toNat, by omega⟩
    have gz : zi < 8 := by omega
    obtain ⟨go1, go2, gs1, gs2, gc, hs, gb, ge⟩ := LI_z hLI gz
    have gr := hLI.2.1 zi gz
    have hAns := rel_local gr gt1 gt2
    have gm1 := cMin_bd (b := ((B zi).1, (B zi).2.1, (B zi).2.2.1, (B zi).2.2.2)) (e := ((E zi).1, (E zi).2.1, (E zi).2.2.1, (E zi).2.2.2)) (t := tm xs i) go1 go2 gs1 gs2
    have gm2 := rMin_bd (ev := evK (eF zi) (tm xs i) (cN zi)) (G := gF zi) go1 go2 gs1 gs2
    refine lv_aload_n hx hb d_Law_law_288 rfl (lv_at hl 2 rfl) ?_
    refine lv_aload_n hx hb d_Law_law_289 rfl (lv_at hl 1 rfl) ?_
    refine lv_iload hx hb d_Law_law_290 (lv_at hl 0 rfl) ?_
    refine lv_iconst (v := iI 1) hx hb d_Law_law_292 rfl ?_
    refine ri_iadd hx hb d_Law_law_293 ?_
    refine ri_i (show ((i : Int)) + 1 = ((i + 1 : Nat) : Int) from by omega) ?_
    refine va_sld hx hb hXs hbl hbA hS (ix_in (i := i + 1) (by omega) (by omega)) d_Law_law_294 ?_
    rw [ix_cl (i := i + 1) (by omega)]
    have g1 := i32_b (xs (i + 1))
    refine ri_v (congrArg Value.int (iI_of (xs (i + 1))).symm) ?_
    refine ri_i hzi ?_
    refine lv_aload_n hx hb d_Law_law_295 rfl (lv_at hl 1 rfl) ?_
    refine lv_iload hx hb d_Law_law_296 (lv_at hl 0 rfl) ?_
    refine lv_iconst (v := iI 2) hx hb d_Law_law_298 rfl ?_
    refine ri_iadd hx hb d_Law_law_299 ?_
    refine ri_i (show ((i : Int)) + 2 = ((i + 2 : Nat) : Int) from by omega) ?_
    refine va_sld hx hb hXs hbl hbA hS (ix_in (i := i + 2) (by omega) (by omega)) d_Law_law_300 ?_
    rw [ix_cl (i := i + 2) (by omega)]
    have g2 := i32_b (xs (i + 2))
    refine ri_v (congrArg Value.int (iI_of (xs (i + 2))).symm) ?_
    refine ri_i2l hx hb d_Law_law_301 ?_
    refine lv_bipush (v := iI 32) hx hb d_Law_law_302 (by decide) ?_
    refine lv_lshl hx hb d_Law_law_304 rfl ?_
    refine lv_aload_n hx hb d_Law_law_305 rfl (lv_at hl 1 rfl) ?_
    refine lv_iload hx hb d_Law_law_306 (lv_at hl 0 rfl) ?_
    refine lv_iconst (v := iI 3) hx hb d_Law_law_308 rfl ?_
    refine ri_iadd hx hb d_Law_law_309 ?_
    refine ri_i (show ((i : Int)) + 3 = ((i + 3 : Nat) : Int) from by omega) ?_
    refine va_sld hx hb hXs hbl hbA hS (ix_in (i := i + 3) (by omega) (by omega)) d_Law_law_310 ?_
    rw [ix_cl (i := i + 3) (by omega)]
    have g3 := i32_b (xs (i + 3))
    refine ri_v (congrArg Value.int (iI_of (xs (i + 3))).symm) ?_
    refine ri_i2l hx hb d_Law_law_311 ?_
    refine lv_ldc2 (v := lL 4294967295) hx hb hown (hk _ kc_Law_70 _) d_Law_law_312 ?_
    refine lv_land hx hb d_Law_law_315 ?_
    refine lv_lor hx hb d_Law_law_316 ?_
    refine ri_v (y := .long (lL (tm xs i))) (congrArg Value.long (lL_of _).symm) ?_
    refine lv_aload_n hx hb d_Law_law_317 rfl (lv_at hl 4 rfl) ?_
    refine t_call (t_runS (rest := []) hx hb (hml.trans hl.1.symm) hown hk hK k_Law_72 (ct_Law_local l D tys aS hoff (ad 0) (ad 1) (ad 3) (ad 6) bp (cl 4) aZ zi (bZ zi) (eZ zi) (off zi) (sv zi) ((B zi).1) ((B zi).2.1) ((B zi).2.2.1) ((B zi).2.2.2) ((E zi).1) ((E zi).2.1) ((E zi).2.2.1) ((E zi).2.2.2) (tm xs i) (ad 16) (cl 2) oF hJ htz gz (by omega) (by omega) (by omega) (by omega) gb ge (by omega) (by omega)) (w_subP (is := [0, 6, 7 + 3 * zi, 8 + 3 * zi, 9 + 3 * zi, 56]) hP (by rcases z8 gz with rfl | rfl | rfl | rfl | rfl | rfl | rfl | rfl <;> rfl)) ((hD.sub [0, 6, 7 + 3 * zi, 8 + 3 * zi, 9 + 3 * zi, 56] (by rcases z8 gz with rfl | rfl | rfl | rfl | rfl | rfl | rfl | rfl <;> rfl) (by rcases z8 gz with rfl | rfl | rfl | rfl | rfl | rfl | rfl | rfl <;> rfl)).weaken (fun _ q _ h => hAS q.1 h)) (hZ.kept (hS.2.1 aS hZ.2.2 (fun h => hAS aS h rfl))) hN rfl rfl ⟨by decide, by decide, by show cells + 0 ≤ 601024; omega, by show slots + 0 ≤ 7293034; omega⟩ (Nat.le_of_ble_eq_true rfl) d_Law_law_318) hP hD hS [0, 6, 7 + 3 * zi, 8 + 3 * zi, 9 + 3 * zi, 56] (by rcases z8 gz with rfl | rfl | rfl | rfl | rfl | rfl | rfl | rfl <;> rfl) (fun w1 H locs hw hP hD hS => ?_)
    subst hw
    have hP : va_P D vwCl (LW ad cl aZ bZ eZ eR gR bp nn i1 bk f doff dsv dm dn off sv B E fa yr mn dy i2 cN eF gF rr fF (vp_updL oF 0 (lL ((tm xs i) + cMin (off zi) (sv zi) (((B zi).1), ((B zi).2.1), ((B zi).2.2.1), ((B zi).2.2.2)) (((E zi).1), ((E zi).2.1), ((E zi).2.2.1), ((E zi).2.2.2)) (tm xs i) * 60000))) bp nn f off sv) H := by rcases z8 gz with rfl | rfl | rfl | rfl | rfl | rfl | rfl | rfl <;> exact hP
    have hD : va_D (fun q => s.heap.size ≤ q) (LW ad cl aZ bZ eZ eR gR bp nn i1 bk f doff dsv dm dn off sv B E fa yr mn dy i2 cN eF gF rr fF (vp_updL oF 0 (lL ((tm xs i) + cMin (off zi) (sv zi) (((B zi).1), ((B zi).2.1), ((B zi).2.2.1), ((B zi).2.2.2)) (((E zi).1), ((E zi).2.1), ((E zi).2.2.1), ((E zi).2.2.2)) (tm xs i) * 60000))) bp nn f off sv) := by rcases z8 gz with rfl | rfl | rfl | rfl | rfl | rfl | rfl | rfl <;> exact hD
    refine lv_istore (lv' := [(5, .int (iI 0)), (4, .int (iI ((i : Int)))), (0, .ref b), (1, .ref (ad 0)), (2, .ref (ad 7)), (3, .ref (ad 16))]) hx hb d_Law_law_321 hl (by decide) rfl (fun ls hl => ?_)
    refine lv_aload_n hx hb d_Law_law_323 rfl (lv_at hl 4 rfl) ?_
    refine lv_aload_n hx hb d_Law_law_324 rfl (lv_at hl 2 rfl) ?_
    refine lv_iload hx hb d_Law_law_325 (lv_at hl 1 rfl) ?_
    refine lv_iconst (v := iI 1) hx hb d_Law_law_327 rfl ?_
    refine ri_iadd hx hb d_Law_law_328 ?_
    refine ri_i (show ((i : Int)) + 1 = ((i + 1 : Nat) : Int) from by omega) ?_
    refine va_sld hx hb hXs hbl hbA hS (ix_in (i := i + 1) (by omega) (by omega)) d_Law_law_329 ?_
    rw [ix_cl (i := i + 1) (by omega)]
    have g1 := i32_b (xs (i + 1))
    refine ri_v (congrArg Value.int (iI_of (xs (i + 1))).symm) ?_
    refine ri_i hzi ?_
    refine lv_aload_n hx hb d_Law_law_330 rfl (lv_at hl 2 rfl) ?_
    refine lv_iload hx hb d_Law_law_331 (lv_at hl 1 rfl) ?_
    refine lv_iconst (v := iI 2) hx hb d_Law_law_333 rfl ?_
    refine ri_iadd hx hb d_Law_law_334 ?_
    refine ri_i (show ((i : Int)) + 2 = ((i + 2 : Nat) : Int) from by omega) ?_
    refine va_sld hx hb hXs hbl hbA hS (ix_in (i := i + 2) (by omega) (by omega)) d_Law_law_335 ?_
    rw [ix_cl (i := i + 2) (by omega)]
    have g2 := i32_b (xs (i + 2))
    refine ri_v (congrArg Value.int (iI_of (xs (i + 2))).symm) ?_
    refine ri_i2l hx hb d_Law_law_336 ?_
    refine lv_bipush (v := iI 32) hx hb d_Law_law_337 (by decide) ?_
    refine lv_lshl hx hb d_Law_law_339 rfl ?_
    refine lv_aload_n hx hb d_Law_law_340 rfl (lv_at hl 2 rfl) ?_
    refine lv_iload hx hb d_Law_law_341 (lv_at hl 1 rfl) ?_
    refine lv_iconst (v := iI 3) hx hb d_Law_law_343 rfl ?_
    refine ri_iadd hx hb d_Law_law_344 ?_
    refine ri_i (show ((i : Int)) + 3 = ((i + 3 : Nat) : Int) from by omega) ?_
    refine va_sld hx hb hXs hbl hbA hS (ix_in (i := i + 3) (by omega) (by omega)) d_Law_law_345 ?_
    rw [ix_cl (i := i + 3) (by omega)]
    have g3 := i32_b (xs (i + 3))
    refine ri_v (congrArg Value.int (iI_of (xs (i + 3))).symm) ?_
    refine ri_i2l hx hb d_Law_law_346 ?_
    refine lv_ldc2 (v := lL 4294967295) hx hb hown (hk _ kc_Law_70 _) d_Law_law_347 ?_
    refine lv_land hx hb d_Law_law_350 ?_
    refine lv_lor hx hb d_Law_law_351 ?_
    refine ri_v (y := .long (lL (tm xs i))) (congrArg Value.long (lL_of _).symm) ?_
    refine m_callV (rest := []) (q0 := 0) hx hb (hml.trans hl.1.symm) hown hk hK k_Law_75 (ct_Ref_local l D tys (ad 7) (ad 8) (ad 9) (ad 10) (ad 11) (ad 12) (ad 13) (ad 14) (ad 15) fa nn bp yr mn dy i2 (cl 1) (cl 2) (cl 3) (cl 5) (cl 6) off sv cN eR gR zi (eF zi) (gF zi) (tm xs i) hI hJ hG hJJ hGG gz gc (hLI.2.2.1 zi gz) hs (by omega) (by omega) (by omega) (by omega) (by omega) (by omega)) hP hD hS [31, 33, 34, 35, 44, 53, 36 + zi, 45 + zi] (by rcases z8 gz with rfl | rfl | rfl | rfl | rfl | rfl | rfl | rfl <;> rfl) (by rcases z8 gz with rfl | rfl | rfl | rfl | rfl | rfl | rfl | rfl <;> rfl) rfl rfl rfl rfl rfl ⟨rfl, rfl⟩ ⟨by decide, by decide, by show cells + 0 ≤ 601024; omega, by show slots + 0 ≤ 7293034; omega⟩ (Nat.le_of_ble_eq_true rfl) d_Law_law_352 (fun H locs hP hD hS => ?_)
    have hP : va_P D vwCl (LW ad cl aZ bZ eZ eR gR bp nn i1 bk f doff dsv dm dn off sv B E 0 yr mn dy i2 cN eF gF rr fF (vp_updL oF 0 (lL ((tm xs i) + cMin (off zi) (sv zi) (((B zi).1), ((B zi).2.1), ((B zi).2.2.1), ((B zi).2.2.2)) (((E zi).1), ((E zi).2.1), ((E zi).2.2.1), ((E zi).2.2.2)) (tm xs i) * 60000))) bp nn f off sv) H := by rcases z8 gz with rfl | rfl | rfl | rfl | rfl | rfl | rfl | rfl <;> exact hP
    have hD : va_D (fun q => s.heap.size ≤ q) (LW ad cl aZ bZ eZ eR gR bp nn i1 bk f doff dsv dm dn off sv B E 0 yr mn dy i2 cN eF gF rr fF (vp_updL oF 0 (lL ((tm xs i) + cMin (off zi) (sv zi) (((B zi).1), ((B zi).2.1), ((B zi).2.2.1), ((B zi).2.2.2)) (((E zi).1), ((E zi).2.1), ((E zi).2.2.1), ((E zi).2.2.2)) (tm xs i) * 60000))) bp nn f off sv) := by rcases z8 gz with rfl | rfl | rfl | rfl | rfl | rfl | rfl | rfl <;> exact hD
    refine lv_lstore (lv' := [(6, .long (lL ((tm xs i) + 60000 * rMin (off zi) (sv zi) (evK (eF zi) (tm xs i) (cN zi)) (gF zi)))), (5, .int (iI 0)), (4, .int (iI ((i : Int)))), (0, .ref b), (1, .ref (ad 0)), (2, .ref (ad 7)), (3, .ref (ad 16))]) hx hb d_Law_law_355 hl (by decide) rfl (fun ls hl => ?_)
    refine lv_aload_n hx hb d_Law_law_357 rfl (lv_at hl 5 rfl) ?_
    refine p_callV (rest := []) (q0 := 0) hx hb (hml.trans hl.1.symm) hown hk hK k_Law_58 (ct_Ref_thrown l D tys (ad 7) (ad 8) (ad 9) (ad 10) (ad 11) (ad 12) (ad 13) (ad 14) (ad 15) 0 nn bp yr mn dy i2 ) (w_subP (is := [31]) hP rfl) (w_subD (is := [31]) hD rfl rfl) rfl rfl rfl rfl ⟨rfl, rfl⟩ ⟨by decide, by decide, by show cells + 0 ≤ 601024; omega, by show slots + 0 ≤ 7293034; omega⟩ (Nat.le_of_ble_eq_true rfl) d_Law_law_358 ?_
    refine lv_iload hx hb d_Law_law_361 (lv_at hl 1 rfl) ?_
    refine ri_icmp_eq (tgt := 368) hx hb d_Law_law_363 (by decide) (fun h363 => ?_) (fun h363 => ?_)
    · refine lv_iload hx hb d_Law_law_368 (lv_at hl 1 rfl) ?_
      refine ri_if_ne (tgt := 384) hx hb d_Law_law_370 (by decide) (fun h370 => ?_) (fun h370 => ?_)
      · exfalso; exact h370 rfl
      · refine lv_aload_n hx hb d_Law_law_373 rfl (lv_at hl 6 rfl) ?_
        refine lv_iconst (v := iI 0) hx hb d_Law_law_374 rfl ?_
        refine ri_i (show (0 : Int) = ((0 : Nat) : Int) from rfl) ?_
        refine g_lald (i := 0) hx hb hK hP 56 2 rfl hJ d_Law_law_375 ?_ (by decide) (by decide)
        refine ri_v (y := .long (lL ((tm xs i) + cMin (off zi) (sv zi) (((B zi).1), ((B zi).2.1), ((B zi).2.2.1), ((B zi).2.2.2)) (((E zi).1), ((E zi).2.1), ((E zi).2.2.1), ((E zi).2.2.2)) (tm xs i) * 60000))) rfl ?_
        refine lv_lload hx hb d_Law_law_376 (lv_at hl 0 rfl) ?_
        refine ri_lcmp_eq (tgt := 384) hx hb d_Law_law_378 d_Law_law_379 (by decide) (fun h378 => ?_) (fun h378 => ?_)
        · refine lv_goto (tgt := 866) hx hb d_Law_law_384 (by decide) ?_
          refine W.widen (k := cells + 2) (n := slots + 12) (by omega) (by omega) ?_
          exact kk _ _ _ _ _ _ _ _ _ _ _ _ _ 0 _ _ _ _ _ _ _ _ _ (vp_updL oF 0 (lL ((tm xs i) + cMin (off zi) (sv zi) (((B zi).1), ((B zi).2.1), ((B zi).2.2.1), ((B zi).2.2.2)) (((E zi).1), ((E zi).2.1), ((E zi).2.2.1), ((E zi).2.2.2)) (tm xs i) * 60000))) H locs ls hLI hP hD hS (lv_sub hl [2, 3, 4, 5, 6] rfl)
        · exfalso; exact h378 hAns
    · exfalso; exact h363 rfl
  · skip
    refine lv_aload_n hx hb d_Law_law_288 rfl (lv_at hl 2 rfl) ?_
    refine lv_aload_n hx hb d_Law_law_289 rfl (lv_at hl 1 rfl) ?_
    refine lv_iload hx hb d_Law_law_290 (lv_at hl 0 rfl) ?_
    refine lv_iconst (v := iI 1) hx hb d_Law_law_292 rfl ?_
    refine ri_iadd hx hb d_Law_law_293 ?_
    refine ri_i (show ((i : Int)) + 1 = ((i + 1 : Nat) : Int) from by omega) ?_
    refine va_sld hx hb hXs hbl hbA hS (ix_in (i := i + 1) (by omega) (by omega)) d_Law_law_294 ?_
    rw [ix_cl (i := i + 1) (by omega)]
    have g1 := i32_b (xs (i + 1))
    refine ri_v (congrArg Value.int (iI_of (xs (i + 1))).symm) ?_
    refine lv_aload_n hx hb d_Law_law_295 rfl (lv_at hl 1 rfl) ?_
    refine lv_iload hx hb d_Law_law_296 (lv_at hl 0 rfl) ?_
    refine lv_iconst (v := iI 2) hx hb d_Law_law_298 rfl ?_
    refine ri_iadd hx hb d_Law_law_299 ?_
    refine ri_i (show ((i : Int)) + 2 = ((i + 2 : Nat) : Int) from by omega) ?_
    refine va_sld hx hb hXs hbl hbA hS (ix_in (i := i + 2) (by omega) (by omega)) d_Law_law_300 ?_
    rw [ix_cl (i := i + 2) (by omega)]
    have g2 := i32_b (xs (i + 2))
    refine ri_v (congrArg Value.int (iI_of (xs (i + 2))).symm) ?_
    refine ri_i2l hx hb d_Law_law_301 ?_
    refine lv_bipush (v := iI 32) hx hb d_Law_law_302 (by decide) ?_
    refine lv_lshl hx hb d_Law_law_304 rfl ?_
    refine lv_aload_n hx hb d_Law_law_305 rfl (lv_at hl 1 rfl) ?_
    refine lv_iload hx hb d_Law_law_306 (lv_at hl 0 rfl) ?_
    refine lv_iconst (v := iI 3) hx hb d_Law_law_308 rfl ?_
    refine ri_iadd hx hb d_Law_law_309 ?_
    refine ri_i (show ((i : Int)) + 3 = ((i + 3 : Nat) : Int) from by omega) ?_
    refine va_sld hx hb hXs hbl hbA hS (ix_in (i := i + 3) (by omega) (by omega)) d_Law_law_310 ?_
    rw [ix_cl (i := i + 3) (by omega)]
    have g3 := i32_b (xs (i + 3))
    refine ri_v (congrArg Value.int (iI_of (xs (i + 3))).symm) ?_
    refine ri_i2l hx hb d_Law_law_311 ?_
    refine lv_ldc2 (v := lL 4294967295) hx hb hown (hk _ kc_Law_70 _) d_Law_law_312 ?_
    refine lv_land hx hb d_Law_law_315 ?_
    refine lv_lor hx hb d_Law_law_316 ?_
    refine ri_v (y := .long (lL (tm xs i))) (congrArg Value.long (lL_of _).symm) ?_
    refine lv_aload_n hx hb d_Law_law_317 rfl (lv_at hl 4 rfl) ?_
    refine t_call (t_runS (rest := []) hx hb (hml.trans hl.1.symm) hown hk hK k_Law_72 (ct_Law_local_x l D tys aS hoff (ad 0) (ad 1) (ad 3) (ad 6) bp (cl 4) aZ ((xs (i + 1)).toInt) (tm xs i) (ad 16) htz (by omega) (by omega) (by omega) (by omega) (by omega)) (w_subP (is := [0, 6]) hP rfl) ((hD.sub [0, 6] rfl rfl).weaken (fun _ q _ h => hAS q.1 h)) (hZ.kept (hS.2.1 aS hZ.2.2 (fun h => hAS aS h rfl))) hN rfl rfl ⟨by decide, by decide, by show cells + 1 ≤ 601024; omega, by show slots + 6 ≤ 7293034; omega⟩ (Nat.le_of_ble_eq_true rfl) d_Law_law_318) hP hD hS [0, 6] rfl (fun w1 H locs hw hP hD hS => ?_)
    subst hw
    have hP : va_P D vwCl (LW ad cl aZ bZ eZ eR gR bp nn i1 bk f doff dsv dm dn off sv B E fa yr mn dy i2 cN eF gF rr fF oF bp nn f off sv) H := hP
    have hD : va_D (fun q => s.heap.size ≤ q) (LW ad cl aZ bZ eZ eR gR bp nn i1 bk f doff dsv dm dn off sv B E fa yr mn dy i2 cN eF gF rr fF oF bp nn f off sv) := hD
    refine lv_istore (lv' := [(5, .int (iI 1)), (4, .int (iI ((i : Int)))), (0, .ref b), (1, .ref (ad 0)), (2, .ref (ad 7)), (3, .ref (ad 16))]) hx hb d_Law_law_321 hl (by decide) rfl (fun ls hl => ?_)
    refine lv_aload_n hx hb d_Law_law_323 rfl (lv_at hl 4 rfl) ?_
    refine lv_aload_n hx hb d_Law_law_324 rfl (lv_at hl 2 rfl) ?_
    refine lv_iload hx hb d_Law_law_325 (lv_at hl 1 rfl) ?_
    refine lv_iconst (v := iI 1) hx hb d_Law_law_327 rfl ?_
    refine ri_iadd hx hb d_Law_law_328 ?_
    refine ri_i (show ((i : Int)) + 1 = ((i + 1 : Nat) : Int) from by omega) ?_
    refine va_sld hx hb hXs hbl hbA hS (ix_in (i := i + 1) (by omega) (by omega)) d_Law_law_329 ?_
    rw [ix_cl (i := i + 1) (by omega)]
    have g1 := i32_b (xs (i + 1))
    refine ri_v (congrArg Value.int (iI_of (xs (i + 1))).symm) ?_
    refine lv_aload_n hx hb d_Law_law_330 rfl (lv_at hl 2 rfl) ?_
    refine lv_iload hx hb d_Law_law_331 (lv_at hl 1 rfl) ?_
    refine lv_iconst (v := iI 2) hx hb d_Law_law_333 rfl ?_
    refine ri_iadd hx hb d_Law_law_334 ?_
    refine ri_i (show ((i : Int)) + 2 = ((i + 2 : Nat) : Int) from by omega) ?_
    refine va_sld hx hb hXs hbl hbA hS (ix_in (i := i + 2) (by omega) (by omega)) d_Law_law_335 ?_
    rw [ix_cl (i := i + 2) (by omega)]
    have g2 := i32_b (xs (i + 2))
    refine ri_v (congrArg Value.int (iI_of (xs (i + 2))).symm) ?_
    refine ri_i2l hx hb d_Law_law_336 ?_
    refine lv_bipush (v := iI 32) hx hb d_Law_law_337 (by decide) ?_
    refine lv_lshl hx hb d_Law_law_339 rfl ?_
    refine lv_aload_n hx hb d_Law_law_340 rfl (lv_at hl 2 rfl) ?_
    refine lv_iload hx hb d_Law_law_341 (lv_at hl 1 rfl) ?_
    refine lv_iconst (v := iI 3) hx hb d_Law_law_343 rfl ?_
    refine ri_iadd hx hb d_Law_law_344 ?_
    refine ri_i (show ((i : Int)) + 3 = ((i + 3 : Nat) : Int) from by omega) ?_
    refine va_sld hx hb hXs hbl hbA hS (ix_in (i := i + 3) (by omega) (by omega)) d_Law_law_345 ?_
    rw [ix_cl (i := i + 3) (by omega)]
    have g3 := i32_b (xs (i + 3))
    refine ri_v (congrArg Value.int (iI_of (xs (i + 3))).symm) ?_
    refine ri_i2l hx hb d_Law_law_346 ?_
    refine lv_ldc2 (v := lL 4294967295) hx hb hown (hk _ kc_Law_70 _) d_Law_law_347 ?_
    refine lv_land hx hb d_Law_law_350 ?_
    refine lv_lor hx hb d_Law_law_351 ?_
    refine ri_v (y := .long (lL (tm xs i))) (congrArg Value.long (lL_of _).symm) ?_
    refine m_callV (rest := []) (q0 := 0) hx hb (hml.trans hl.1.symm) hown hk hK k_Law_75 (ct_Ref_local_b l D tys (ad 7) (ad 8) (ad 9) (ad 10) (ad 11) (ad 12) (ad 13) (ad 14) (ad 15) fa nn bp yr mn dy i2 ((xs (i + 1)).toInt) (tm xs i) (by omega) (by omega) (by omega) (by omega) (by omega)) hP hD hS [31] rfl rfl rfl rfl rfl rfl rfl ⟨rfl, rfl⟩ ⟨by decide, by decide, by show cells + 1 + 0 ≤ 601024; omega, by show slots + 6 + 0 ≤ 7293034; omega⟩ (Nat.le_of_ble_eq_true rfl) d_Law_law_352 (fun H locs hP hD hS => ?_)
    have hP : va_P D vwCl (LW ad cl aZ bZ eZ eR gR bp nn i1 bk f doff dsv dm dn off sv B E 1 yr mn dy i2 cN eF gF rr fF oF bp nn f off sv) H := hP
    have hD : va_D (fun q => s.heap.size ≤ q) (LW ad cl aZ bZ eZ eR gR bp nn i1 bk f doff dsv dm dn off sv B E 1 yr mn dy i2 cN eF gF rr fF oF bp nn f off sv) := hD
    refine lv_lstore (lv' := [(6, .long (lL 0)), (5, .int (iI 1)), (4, .int (iI ((i : Int)))), (0, .ref b), (1, .ref (ad 0)), (2, .ref (ad 7)), (3, .ref (ad 16))]) hx hb d_Law_law_355 hl (by decide) rfl (fun ls hl => ?_)
    refine lv_aload_n hx hb d_Law_law_357 rfl (lv_at hl 5 rfl) ?_
    refine p_callV (rest := []) (q0 := 0) hx hb (hml.trans hl.1.symm) hown hk hK k_Law_58 (ct_Ref_thrown l D tys (ad 7) (ad 8) (ad 9) (ad 10) (ad 11) (ad 12) (ad 13) (ad 14) (ad 15) 1 nn bp yr mn dy i2 ) (w_subP (is := [31]) hP rfl) (w_subD (is := [31]) hD rfl rfl) rfl rfl rfl rfl ⟨rfl, rfl⟩ ⟨by decide, by decide, by show cells + 1 + 0 ≤ 601024; omega, by show slots + 6 + 0 ≤ 7293034; omega⟩ (Nat.le_of_ble_eq_true rfl) d_Law_law_358 ?_
    refine lv_iload hx hb d_Law_law_361 (lv_at hl 1 rfl) ?_
    refine ri_icmp_eq (tgt := 368) hx hb d_Law_law_363 (by decide) (fun h363 => ?_) (fun h363 => ?_)
    · refine lv_iload hx hb d_Law_law_368 (lv_at hl 1 rfl) ?_
      refine ri_if_ne (tgt := 384) hx hb d_Law_law_370 (by decide) (fun h370 => ?_) (fun h370 => ?_)
      · refine lv_goto (tgt := 866) hx hb d_Law_law_384 (by decide) ?_
        refine W.widen (k := cells + 2) (n := slots + 12) (by omega) (by omega) ?_
        exact kk _ _ _ _ _ _ _ _ _ _ _ _ _ 1 _ _ _ _ _ _ _ _ _ _ H locs ls hLI hP hD hS (lv_sub hl [2, 3, 4, 5, 6] rfl)
      · exfalso; omega
    · exfalso; exact h363 rfl
set_option maxHeartbeats 4000000 in
set_option maxRecDepth 100000 in
theorem st_many {p : Program} {l : Launch} {e : Env} {s : State} {m : MethodId} {below : List Frame} {meth : Method} {c : Code} {b L : Nat} {xs : Nat → Int32} {D : va_G} {tys : List (ClassId × FieldType)} {aS : Nat} {ad : Nat → Nat} {cl : Nat → ClassId} {aZ : Nat → Nat} {bZ : Nat → Nat} {eZ : Nat → Nat} {eR : Nat → Nat} {gR : Nat → Nat} {bp : Int} {nn : Nat} {i1 : Nat} {bk : Bool} {f : Nat → Int32} {doff : Int} {dsv : Int} {dm : RU} {dn : RU} {off : Nat → Int} {sv : Nat → Int} {B : Nat → RU} {E : Nat → RU} {fa : Int} {yr : Int} {mn : Int} {dy : Int} {i2 : Nat} {cN : Nat → Nat} {eF : Nat → Nat → Int} {gF : Nat → Nat → Bool} {rr : Nat → Int32} {fF : Nat → Int64} {oF : Nat → Int64} {i cells slots : Nat} {H : Heap} {locs : List Loc} {ls : Array Slot} {Q : State → Prop} (C0 : LC p l s m meth c b L xs D tys cl aS) (hLI : LI bp nn off sv B E cN eF gF) (hi : i + 6 ≤ L) (hcl : cells ≤ 600000) (hsl : slots ≤ 7000000) (hP : va_P D vwCl (LW ad cl aZ bZ eZ eR gR bp nn i1 bk f doff dsv dm dn off sv B E fa yr mn dy i2 cN eF gF rr fF oF bp nn f off sv) H) (hD : va_D (fun q => s.heap.size ≤ q) (LW ad cl aZ bZ eZ eR gR bp nn i1 bk f doff dsv dm dn off sv B E fa yr mn dy i2 cN eF gF rr fF oF bp nn f off sv)) (hS : va_S (fun q => s.heap.size ≤ q) s.heap H locs) (hl : lv_has ls 8 [(4, .int (iI (i : Int))), (0, .ref b), (1, .ref (ad 0)), (2, .ref (ad 7)), (3, .ref (ad 16))]) (kk : LK p l e s m below meth c b D ad cl aZ bZ eZ eR gR i (cells + 2) (slots + 12) Q) : W p l e room_1 s m #[.ref b] below meth c H locs cells slots Q (F0 m 387 ls []) := by
  obtain ⟨hx, hb, hr, hml, hown, hlk, hk, hK, hZ, hN, hXs, hbl, hL, hoff, hty, hI, hJ, hG, htz, hJJ, hGG⟩ := C0
  have hAS : ∀ q, s.heap.size ≤ q → q ≠ aS := fun q h => by have := hZ.2.2; omega
  have hbA : ¬ s.heap.size ≤ b := by omega
  have gbp := hLI.2.2.2
  have gt := tm_b xs i
  have g4 := i32_b (xs (i + 4))
  by_cases hz : (0 ≤ (xs (i + 1)).toInt ∧ (xs (i + 1)).toInt < 8) ∧ (0 ≤ tm xs i ∧ tm xs i ≤ 10413791999999)
  · obtain ⟨⟨z1, z2⟩, ⟨gt1, gt2⟩⟩ := hz
    obtain ⟨zi, hzi⟩ : ∃ zi : Nat, (xs (i + 1)).toInt = (zi : Int) := ⟨((xs (i + 1)).toInt).toNat, by omega⟩
    have gz : zi < 8 := by omega
    obtain ⟨go1, go2, gs1, gs2, gc, hs, gb, ge⟩ := LI_z hLI gz
    have gr := hLI.2.1 zi gz
    have hAns := rel_many gr gt1 gt2
    have gIn := aIn_b (off zi) (sv zi) ((B zi).1, (B zi).2.1, (B zi).2.2.1, (B zi).2.2.2) ((E zi).1, (E zi).2.1, (E zi).2.2.1, (E zi).2.2.2) (tm xs i)
    have gOut := aOut_b (off zi) (sv zi) ((B zi).1, (B zi).2.1, (B zi).2.2.1, (B zi).2.2.2) ((E zi).1, (E zi).2.1, (E zi).2.2.1, (E zi).2.2.2) (tm xs i)
    have gR1 := bI_b (rP1 (off zi) (sv zi) (cN zi) (eF zi) (gF zi) (tm xs i))
    have gR2 := bI_b (rP2 (off zi) (sv zi) (cN zi) (eF zi) (gF zi) (tm xs i))
    refine lv_aload_n hx hb d_Law_law_387 rfl (lv_at hl 2 rfl) ?_
    refine lv_aload_n hx hb d_Law_law_388 rfl (lv_at hl 1 rfl) ?_
    refine lv_iload hx hb d_Law_law_389 (lv_at hl 0 rfl) ?_
    refine lv_iconst (v := iI 1) hx hb d_Law_law_391 rfl ?_
    refine ri_iadd hx hb d_Law_law_392 ?_
    refine ri_i (show ((i : Int)) + 1 = ((i + 1 : Nat) : Int) from by omega) ?_
    refine va_sld hx hb hXs hbl hbA hS (ix_in (i := i + 1) (by omega) (by omega)) d_Law_law_393 ?_
    rw [ix_cl (i := i + 1) (by omega)]
    have g1 := i32_b (xs (i + 1))
    refine ri_v (congrArg Value.int (iI_of (xs (i + 1))).symm) ?_
    refine ri_i hzi ?_
    refine lv_aload_n hx hb d_Law_law_394 rfl (lv_at hl 1 rfl) ?_
    refine lv_iload hx hb d_Law_law_395 (lv_at hl 0 rfl) ?_
    refine lv_iconst (v := iI 2) hx hb d_Law_law_397 rfl ?_
    refine ri_iadd hx hb d_Law_law_398 ?_
    refine ri_i (show ((i : Int)) + 2 = ((i + 2 : Nat) : Int) from by omega) ?_
    refine va_sld hx hb hXs hbl hbA hS (ix_in (i := i + 2) (by omega) (by omega)) d_Law_law_399 ?_
    rw [ix_cl (i := i + 2) (by omega)]
    have g2 := i32_b (xs (i + 2))
    refine ri_v (congrArg Value.int (iI_of (xs (i + 2))).symm) ?_
    refine ri_i2l hx hb d_Law_law_400 ?_
    refine lv_bipush (v := iI 32) hx hb d_Law_law_401 (by decide) ?_
    refine lv_lshl hx hb d_Law_law_403 rfl ?_
    refine lv_aload_n hx hb d_Law_law_404 rfl (lv_at hl 1 rfl) ?_
    refine lv_iload hx hb d_Law_law_405 (lv_at hl 0 rfl) ?_
    refine lv_iconst (v := iI 3) hx hb d_Law_law_407 rfl ?_
    refine ri_iadd hx hb d_Law_law_408 ?_
    refine ri_i (show ((i : Int)) + 3 = ((i + 3 : Nat) : Int) from by omega) ?_
    refine va_sld hx hb hXs hbl hbA hS (ix_in (i := i + 3) (by omega) (by omega)) d_Law_law_409 ?_
    rw [ix_cl (i := i + 3) (by omega)]
    have g3 := i32_b (xs (i + 3))
    refine ri_v (congrArg Value.int (iI_of (xs (i + 3))).symm) ?_
    refine ri_i2l hx hb d_Law_law_410 ?_
    refine lv_ldc2 (v := lL 4294967295) hx hb hown (hk _ kc_Law_70 _) d_Law_law_411 ?_
    refine lv_land hx hb d_Law_law_414 ?_
    refine lv_lor hx hb d_Law_law_415 ?_
    refine ri_v (y := .long (lL (tm xs i))) (congrArg Value.long (lL_of _).symm) ?_
    refine lv_aload_n hx hb d_Law_law_416 rfl (lv_at hl 4 rfl) ?_
    refine t_call (t_runS (rest := []) hx hb (hml.trans hl.1.symm) hown hk hK k_Law_76 (ct_Law_many l D tys aS hoff (ad 0) (ad 1) (ad 3) (ad 6) bp (cl 4) aZ zi (bZ zi) (eZ zi) (off zi) (sv zi) ((B zi).1) ((B zi).2.1) ((B zi).2.2.1) ((B zi).2.2.2) ((E zi).1) ((E zi).2.1) ((E zi).2.2.1) ((E zi).2.2.2) (tm xs i) (ad 16) (cl 2) oF hJ htz gz (by omega) (by omega) (by omega) (by omega) gb ge (by omega) (by omega)) (w_subP (is := [0, 6, 7 + 3 * zi, 8 + 3 * zi, 9 + 3 * zi, 56]) hP (by rcases z8 gz with rfl | rfl | rfl | rfl | rfl | rfl | rfl | rfl <;> rfl)) ((hD.sub [0, 6, 7 + 3 * zi, 8 + 3 * zi, 9 + 3 * zi, 56] (by rcases z8 gz with rfl | rfl | rfl | rfl | rfl | rfl | rfl | rfl <;> rfl) (by rcases z8 gz with rfl | rfl | rfl | rfl | rfl | rfl | rfl | rfl <;> rfl)).weaken (fun _ q _ h => hAS q.1 h)) (hZ.kept (hS.2.1 aS hZ.2.2 (fun h => hAS aS h rfl))) hN rfl rfl ⟨by decide, by decide, by show cells + 0 ≤ 601024; omega, by show slots + 0 ≤ 7293034; omega⟩ (Nat.le_of_ble_eq_true rfl) d_Law_law_417) hP hD hS [0, 6, 7 + 3 * zi, 8 + 3 * zi, 9 + 3 * zi, 56] (by rcases z8 gz with rfl | rfl | rfl | rfl | rfl | rfl | rfl | rfl <;> rfl) (fun w1 H locs hw hP hD hS => ?_)
    subst hw
    have hP : va_P D vwCl (LW ad cl aZ bZ eZ eR gR bp nn i1 bk f doff dsv dm dn off sv B E fa yr mn dy i2 cN eF gF rr fF (vp_updL oF 0 (lL (aIn (off zi) (sv zi) (((B zi).1), ((B zi).2.1), ((B zi).2.2.1), ((B zi).2.2.2)) (((E zi).1), ((E zi).2.1), ((E zi).2.2.1), ((E zi).2.2.2)) (tm xs i) + aOut (off zi) (sv zi) (((B zi).1), ((B zi).2.1), ((B zi).2.2.1), ((B zi).2.2.2)) (((E zi).1), ((E zi).2.1), ((E zi).2.2.1), ((E zi).2.2.2)) (tm xs i)))) bp nn f off sv) H := by rcases z8 gz with rfl | rfl | rfl | rfl | rfl | rfl | rfl | rfl <;> exact hP
    have hD : va_D (fun q => s.heap.size ≤ q) (LW ad cl aZ bZ eZ eR gR bp nn i1 bk f doff dsv dm dn off sv B E fa yr mn dy i2 cN eF gF rr fF (vp_updL oF 0 (lL (aIn (off zi) (sv zi) (((B zi).1), ((B zi).2.1), ((B zi).2.2.1), ((B zi).2.2.2)) (((E zi).1), ((E zi).2.1), ((E zi).2.2.1), ((E zi).2.2.2)) (tm xs i) + aOut (off zi) (sv zi) (((B zi).1), ((B zi).2.1), ((B zi).2.2.1), ((B zi).2.2.2)) (((E zi).1), ((E zi).2.1), ((E zi).2.2.1), ((E zi).2.2.2)) (tm xs i)))) bp nn f off sv) := by rcases z8 gz with rfl | rfl | rfl | rfl | rfl | rfl | rfl | rfl <;> exact hD
    refine lv_istore (lv' := [(5, .int (iI 0)), (4, .int (iI ((i : Int)))), (0, .ref b), (1, .ref (ad 0)), (2, .ref (ad 7)), (3, .ref (ad 16))]) hx hb d_Law_law_420 hl (by decide) rfl (fun ls hl => ?_)
    refine lv_aload_n hx hb d_Law_law_422 rfl (lv_at hl 4 rfl) ?_
    refine lv_aload_n hx hb d_Law_law_423 rfl (lv_at hl 2 rfl) ?_
    refine lv_iload hx hb d_Law_law_424 (lv_at hl 1 rfl) ?_
    refine lv_iconst (v := iI 1) hx hb d_Law_law_426 rfl ?_
    refine ri_iadd hx hb d_Law_law_427 ?_
    refine ri_i (show ((i : Int)) + 1 = ((i + 1 : Nat) : Int) from by omega) ?_
    refine va_sld hx hb hXs hbl hbA hS (ix_in (i := i + 1) (by omega) (by omega)) d_Law_law_428 ?_
    rw [ix_cl (i := i + 1) (by omega)]
    have g1 := i32_b (xs (i + 1))
    refine ri_v (congrArg Value.int (iI_of (xs (i + 1))).symm) ?_
    refine ri_i hzi ?_
    refine lv_aload_n hx hb d_Law_law_429 rfl (lv_at hl 2 rfl) ?_
    refine lv_iload hx hb d_Law_law_430 (lv_at hl 1 rfl) ?_
    refine lv_iconst (v := iI 2) hx hb d_Law_law_432 rfl ?_
    refine ri_iadd hx hb d_Law_law_433 ?_
    refine ri_i (show ((i : Int)) + 2 = ((i + 2 : Nat) : Int) from by omega) ?_
    refine va_sld hx hb hXs hbl hbA hS (ix_in (i := i + 2) (by omega) (by omega)) d_Law_law_434 ?_
    rw [ix_cl (i := i + 2) (by omega)]
    have g2 := i32_b (xs (i + 2))
    refine ri_v (congrArg Value.int (iI_of (xs (i + 2))).symm) ?_
    refine ri_i2l hx hb d_Law_law_435 ?_
    refine lv_bipush (v := iI 32) hx hb d_Law_law_436 (by decide) ?_
    refine lv_lshl hx hb d_Law_law_438 rfl ?_
    refine lv_aload_n hx hb d_Law_law_439 rfl (lv_at hl 2 rfl) ?_
    refine lv_iload hx hb d_Law_law_440 (lv_at hl 1 rfl) ?_
    refine lv_iconst (v := iI 3) hx hb d_Law_law_442 rfl ?_
    refine ri_iadd hx hb d_Law_law_443 ?_
    refine ri_i (show ((i : Int)) + 3 = ((i + 3 : Nat) : Int) from by omega) ?_
    refine va_sld hx hb hXs hbl hbA hS (ix_in (i := i + 3) (by omega) (by omega)) d_Law_law_444 ?_
    rw [ix_cl (i := i + 3) (by omega)]
    have g3 := i32_b (xs (i + 3))
    refine ri_v (congrArg Value.int (iI_of (xs (i + 3))).symm) ?_
    refine ri_i2l hx hb d_Law_law_445 ?_
    refine lv_ldc2 (v := lL 4294967295) hx hb hown (hk _ kc_Law_70 _) d_Law_law_446 ?_
    refine lv_land hx hb d_Law_law_449 ?_
    refine lv_lor hx hb d_Law_law_450 ?_
    refine ri_v (y := .long (lL (tm xs i))) (congrArg Value.long (lL_of _).symm) ?_
    refine m_callV (rest := []) (q0 := 0) hx hb (hml.trans hl.1.symm) hown hk hK k_Law_78 (ct_Ref_many l D tys (ad 7) (ad 8) (ad 9) (ad 10) (ad 11) (ad 12) (ad 13) (ad 14) (ad 15) fa nn bp yr mn dy i2 (cl 1) (cl 2) (cl 3) (cl 5) (cl 6) off sv cN eR gR zi (eF zi) (gF zi) fF (tm xs i) hI hJ hG hJJ hGG gz gc (hLI.2.2.1 zi gz) hs (by omega) (by omega) (by omega) (by omega) (by omega) (by omega)) hP hD hS [31, 33, 34, 35, 44, 53, 36 + zi, 45 + zi, 55] (by rcases z8 gz with rfl | rfl | rfl | rfl | rfl | rfl | rfl | rfl <;> rfl) (by rcases z8 gz with rfl | rfl | rfl | rfl | rfl | rfl | rfl | rfl <;> rfl) rfl rfl rfl rfl rfl ⟨rfl, rfl⟩ ⟨by decide, by decide, by show cells + 0 ≤ 601024; omega, by show slots + 0 ≤ 7293034; omega⟩ (Nat.le_of_ble_eq_true rfl) d_Law_law_451 (fun H locs hP hD hS => ?_)
    have hP : va_P D vwCl (LW ad cl aZ bZ eZ eR gR bp nn i1 bk f doff dsv dm dn off sv B E 0 yr mn dy i2 cN eF gF rr (rFnd (rP1 (off zi) (sv zi) (cN zi) (eF zi) (gF zi) (tm xs i)) (rP2 (off zi) (sv zi) (cN zi) (eF zi) (gF zi) (tm xs i)) (rfA (off zi) (sv zi) (tm xs i)) (rfB (off zi) (tm xs i)) fF) (vp_updL oF 0 (lL (aIn (off zi) (sv zi) (((B zi).1), ((B zi).2.1), ((B zi).2.2.1), ((B zi).2.2.2)) (((E zi).1), ((E zi).2.1), ((E zi).2.2.1), ((E zi).2.2.2)) (tm xs i) + aOut (off zi) (sv zi) (((B zi).1), ((B zi).2.1), ((B zi).2.2.1), ((B zi).2.2.2)) (((E zi).1), ((E zi).2.1), ((E zi).2.2.1), ((E zi).2.2.2)) (tm xs i)))) bp nn f off sv) H := by rcases z8 gz with rfl | rfl | rfl | rfl | rfl | rfl | rfl | rfl <;> exact hP
    have hD : va_D (fun q => s.heap.size ≤ q) (LW ad cl aZ bZ eZ eR gR bp nn i1 bk f doff dsv dm dn off sv B E 0 yr mn dy i2 cN eF gF rr (rFnd (rP1 (off zi) (sv zi) (cN zi) (eF zi) (gF zi) (tm xs i)) (rP2 (off zi) (sv zi) (cN zi) (eF zi) (gF zi) (tm xs i)) (rfA (off zi) (sv zi) (tm xs i)) (rfB (off zi) (tm xs i)) fF) (vp_updL oF 0 (lL (aIn (off zi) (sv zi) (((B zi).1), ((B zi).2.1), ((B zi).2.2.1), ((B zi).2.2.2)) (((E zi).1), ((E zi).2.1), ((E zi).2.2.1), ((E zi).2.2.2)) (tm xs i) + aOut (off zi) (sv zi) (((B zi).1), ((B zi).2.1), ((B zi).2.2.1), ((B zi).2.2.2)) (((E zi).1), ((E zi).2.1), ((E zi).2.2.1), ((E zi).2.2.2)) (tm xs i)))) bp nn f off sv) := by rcases z8 gz with rfl | rfl | rfl | rfl | rfl | rfl | rfl | rfl <;> exact hD
    refine lv_istore (lv' := [(6, .int (iI (bI (rP1 (off zi) (sv zi) (cN zi) (eF zi) (gF zi) (tm xs i)) + bI (rP2 (off zi) (sv zi) (cN zi) (eF zi) (gF zi) (tm xs i))))), (5, .int (iI 0)), (4, .int (iI ((i : Int)))), (0, .ref b), (1, .ref (ad 0)), (2, .ref (ad 7)), (3, .ref (ad 16))]) hx hb d_Law_law_454 hl (by decide) rfl (fun ls hl => ?_)
    refine lv_aload_n hx hb d_Law_law_456 rfl (lv_at hl 5 rfl) ?_
    refine p_callV (rest := []) (q0 := 0) hx hb (hml.trans hl.1.symm) hown hk hK k_Law_58 (ct_Ref_thrown l D tys (ad 7) (ad 8) (ad 9) (ad 10) (ad 11) (ad 12) (ad 13) (ad 14) (ad 15) 0 nn bp yr mn dy i2 ) (w_subP (is := [31]) hP rfl) (w_subD (is := [31]) hD rfl rfl) rfl rfl rfl rfl ⟨rfl, rfl⟩ ⟨by decide, by decide, by show cells + 0 ≤ 601024; omega, by show slots + 0 ≤ 7293034; omega⟩ (Nat.le_of_ble_eq_true rfl) d_Law_law_457 ?_
    refine lv_iload hx hb d_Law_law_460 (lv_at hl 1 rfl) ?_
    refine ri_icmp_eq (tgt := 467) hx hb d_Law_law_462 (by decide) (fun h462 => ?_) (fun h462 => ?_)
    · refine lv_iload hx hb d_Law_law_467 (lv_at hl 1 rfl) ?_
      refine ri_if_ne (tgt := 484) hx hb d_Law_law_469 (by decide) (fun h469 => ?_) (fun h469 => ?_)
      · exfalso; exact h469 rfl
      · refine lv_aload_n hx hb d_Law_law_472 rfl (lv_at hl 6 rfl) ?_
        refine lv_iconst (v := iI 0) hx hb d_Law_law_473 rfl ?_
        refine ri_i (show (0 : Int) = ((0 : Nat) : Int) from rfl) ?_
        refine g_lald (i := 0) hx hb hK hP 56 2 rfl hJ d_Law_law_474 ?_ (by decide) (by decide)
        refine ri_v (y := .long (lL (aIn (off zi) (sv zi) (((B zi).1), ((B zi).2.1), ((B zi).2.2.1), ((B zi).2.2.2)) (((E zi).1), ((E zi).2.1), ((E zi).2.2.1), ((E zi).2.2.2)) (tm xs i) + aOut (off zi) (sv zi) (((B zi).1), ((B zi).2.1), ((B zi).2.2.1), ((B zi).2.2.2)) (((E zi).1), ((E zi).2.1), ((E zi).2.2.1), ((E zi).2.2.2)) (tm xs i)))) rfl ?_
        refine lv_iload hx hb d_Law_law_475 (lv_at hl 0 rfl) ?_
        refine ri_i2l hx hb d_Law_law_477 ?_
        refine ri_lcmp_eq (tgt := 484) hx hb d_Law_law_478 d_Law_law_479 (by decide) (fun h478 => ?_) (fun h478 => ?_)
        · refine lv_goto (tgt := 866) hx hb d_Law_law_484 (by decide) ?_
          refine W.widen (k := cells + 2) (n := slots + 12) (by omega) (by omega) ?_
          exact kk _ _ _ _ _ _ _ _ _ _ _ _ _ 0 _ _ _ _ _ _ _ _ (rFnd (rP1 (off zi) (sv zi) (cN zi) (eF zi) (gF zi) (tm xs i)) (rP2 (off zi) (sv zi) (cN zi) (eF zi) (gF zi) (tm xs i)) (rfA (off zi) (sv zi) (tm xs i)) (rfB (off zi) (tm xs i)) fF) (vp_updL oF 0 (lL (aIn (off zi) (sv zi) (((B zi).1), ((B zi).2.1), ((B zi).2.2.1), ((B zi).2.2.2)) (((E zi).1), ((E zi).2.1), ((E zi).2.2.1), ((E zi).2.2.2)) (tm xs i) + aOut (off zi) (sv zi) (((B zi).1), ((B zi).2.1), ((B zi).2.2.1), ((B zi).2.2.2)) (((E zi).1), ((E zi).2.1), ((E zi).2.2.1), ((E zi).2.2.2)) (tm xs i)))) H locs ls hLI hP hD hS (lv_sub hl [2, 3, 4, 5, 6] rfl)
        · exfalso; exact h478 hAns
    · exfalso; exact h462 rfl
  · skip
    refine lv_aload_n hx hb d_Law_law_387 rfl (lv_at hl 2 rfl) ?_
    refine lv_aload_n hx hb d_Law_law_388 rfl (lv_at hl 1 rfl) ?_
    refine lv_iload hx hb d_Law_law_389 (lv_at hl 0 rfl) ?_
    refine lv_iconst (v := iI 1) hx hb d_Law_law_391 rfl ?_
    refine ri_iadd hx hb d_Law_law_392 ?_
    refine ri_i (show ((i : Int)) + 1 = ((i + 1 : Nat) : Int) from by omega) ?_
    refine va_sld hx hb hXs hbl hbA hS (ix_in (i := i + 1) (by omega) (by omega)) d_Law_law_393 ?_
    rw [ix_cl (i := i + 1) (by omega)]
    have g1 := i32_b (xs (i + 1))
    refine ri_v (congrArg Value.int (iI_of (xs (i + 1))).symm) ?_
    refine lv_aload_n hx hb d_Law_law_394 rfl (lv_at hl 1 rfl) ?_
    refine lv_iload hx hb d_Law_law_395 (lv_at hl 0 rfl) ?_
    refine lv_iconst (v := iI 2) hx hb d_Law_law_397 rfl ?_
    refine ri_iadd hx hb d_Law_law_398 ?_
    refine ri_i (show ((i : Int)) + 2 = ((i + 2 : Nat) : Int) from by omega) ?_
    refine va_sld hx hb hXs hbl hbA hS (ix_in (i := i + 2) (by omega) (by omega)) d_Law_law_399 ?_
    rw [ix_cl (i := i + 2) (by omega)]
    have g2 := i32_b (xs (i + 2))
    refine ri_v (congrArg Value.int (iI_of (xs (i + 2))).symm) ?_
    refine ri_i2l hx hb d_Law_law_400 ?_
    refine lv_bipush (v := iI 32) hx hb d_Law_law_401 (by decide) ?_
    refine lv_lshl hx hb d_Law_law_403 rfl ?_
    refine lv_aload_n hx hb d_Law_law_404 rfl (lv_at hl 1 rfl) ?_
    refine lv_iload hx hb d_Law_law_405 (lv_at hl 0 rfl) ?_
    refine lv_iconst (v := iI 3) hx hb d_Law_law_407 rfl ?_
    refine ri_iadd hx hb d_Law_law_408 ?_
    refine ri_i (show ((i : Int)) + 3 = ((i + 3 : Nat) : Int) from by omega) ?_
    refine va_sld hx hb hXs hbl hbA hS (ix_in (i := i + 3) (by omega) (by omega)) d_Law_law_409 ?_
    rw [ix_cl (i := i + 3) (by omega)]
    have g3 := i32_b (xs (i + 3))
    refine ri_v (congrArg Value.int (iI_of (xs (i + 3))).symm) ?_
    refine ri_i2l hx hb d_Law_law_410 ?_
    refine lv_ldc2 (v := lL 4294967295) hx hb hown (hk _ kc_Law_70 _) d_Law_law_411 ?_
    refine lv_land hx hb d_Law_law_414 ?_
    refine lv_lor hx hb d_Law_law_415 ?_
    refine ri_v (y := .long (lL (tm xs i))) (congrArg Value.long (lL_of _).symm) ?_
    refine lv_aload_n hx hb d_Law_law_416 rfl (lv_at hl 4 rfl) ?_
    refine t_call (t_runS (rest := []) hx hb (hml.trans hl.1.symm) hown hk hK k_Law_76 (ct_Law_many_x l D tys aS hoff (ad 0) (ad 1) (ad 3) (ad 6) bp (cl 4) aZ ((xs (i + 1)).toInt) (tm xs i) (ad 16) htz (by omega) (by omega) (by omega) (by omega) (by omega)) (w_subP (is := [0, 6]) hP rfl) ((hD.sub [0, 6] rfl rfl).weaken (fun _ q _ h => hAS q.1 h)) (hZ.kept (hS.2.1 aS hZ.2.2 (fun h => hAS aS h rfl))) hN rfl rfl ⟨by decide, by decide, by show cells + 1 ≤ 601024; omega, by show slots + 6 ≤ 7293034; omega⟩ (Nat.le_of_ble_eq_true rfl) d_Law_law_417) hP hD hS [0, 6] rfl (fun w1 H locs hw hP hD hS => ?_)
    subst hw
    have hP : va_P D vwCl (LW ad cl aZ bZ eZ eR gR bp nn i1 bk f doff dsv dm dn off sv B E fa yr mn dy i2 cN eF gF rr fF oF bp nn f off sv) H := hP
    have hD : va_D (fun q => s.heap.size ≤ q) (LW ad cl aZ bZ eZ eR gR bp nn i1 bk f doff dsv dm dn off sv B E fa yr mn dy i2 cN eF gF rr fF oF bp nn f off sv) := hD
    refine lv_istore (lv' := [(5, .int (iI 1)), (4, .int (iI ((i : Int)))), (0, .ref b), (1, .ref (ad 0)), (2, .ref (ad 7)), (3, .ref (ad 16))]) hx hb d_Law_law_420 hl (by decide) rfl (fun ls hl => ?_)
    refine lv_aload_n hx hb d_Law_law_422 rfl (lv_at hl 4 rfl) ?_
    refine lv_aload_n hx hb d_Law_law_423 rfl (lv_at hl 2 rfl) ?_
    refine lv_iload hx hb d_Law_law_424 (lv_at hl 1 rfl) ?_
    refine lv_iconst (v := iI 1) hx hb d_Law_law_426 rfl ?_
    refine ri_iadd hx hb d_Law_law_427 ?_
    refine ri_i (show ((i : Int)) + 1 = ((i + 1 : Nat) : Int) from by omega) ?_
    refine va_sld hx hb hXs hbl hbA hS (ix_in (i := i + 1) (by omega) (by omega)) d_Law_law_428 ?_
    rw [ix_cl (i := i + 1) (by omega)]
    have g1 := i32_b (xs (i + 1))
    refine ri_v (congrArg Value.int (iI_of (xs (i + 1))).symm) ?_
    refine lv_aload_n hx hb d_Law_law_429 rfl (lv_at hl 2 rfl) ?_
    refine lv_iload hx hb d_Law_law_430 (lv_at hl 1 rfl) ?_
    refine lv_iconst (v := iI 2) hx hb d_Law_law_432 rfl ?_
    refine ri_iadd hx hb d_Law_law_433 ?_
    refine ri_i (show ((i : Int)) + 2 = ((i + 2 : Nat) : Int) from by omega) ?_
    refine va_sld hx hb hXs hbl hbA hS (ix_in (i := i + 2) (by omega) (by omega)) d_Law_law_434 ?_
    rw [ix_cl (i := i + 2) (by omega)]
    have g2 := i32_b (xs (i + 2))
    refine ri_v (congrArg Value.int (iI_of (xs (i + 2))).symm) ?_
    refine ri_i2l hx hb d_Law_law_435 ?_
    refine lv_bipush (v := iI 32) hx hb d_Law_law_436 (by decide) ?_
    refine lv_lshl hx hb d_Law_law_438 rfl ?_
    refine lv_aload_n hx hb d_Law_law_439 rfl (lv_at hl 2 rfl) ?_
    refine lv_iload hx hb d_Law_law_440 (lv_at hl 1 rfl) ?_
    refine lv_iconst (v := iI 3) hx hb d_Law_law_442 rfl ?_
    refine ri_iadd hx hb d_Law_law_443 ?_
    refine ri_i (show ((i : Int)) + 3 = ((i + 3 : Nat) : Int) from by omega) ?_
    refine va_sld hx hb hXs hbl hbA hS (ix_in (i := i + 3) (by omega) (by omega)) d_Law_law_444 ?_
    rw [ix_cl (i := i + 3) (by omega)]
    have g3 := i32_b (xs (i + 3))
    refine ri_v (congrArg Value.int (iI_of (xs (i + 3))).symm) ?_
    refine ri_i2l hx hb d_Law_law_445 ?_
    refine lv_ldc2 (v := lL 4294967295) hx hb hown (hk _ kc_Law_70 _) d_Law_law_446 ?_
    refine lv_land hx hb d_Law_law_449 ?_
    refine lv_lor hx hb d_Law_law_450 ?_
    refine ri_v (y := .long (lL (tm xs i))) (congrArg Value.long (lL_of _).symm) ?_
    refine m_callV (rest := []) (q0 := 0) hx hb (hml.trans hl.1.symm) hown hk hK k_Law_78 (ct_Ref_many_b l D tys (ad 7) (ad 8) (ad 9) (ad 10) (ad 11) (ad 12) (ad 13) (ad 14) (ad 15) fa nn bp yr mn dy i2 ((xs (i + 1)).toInt) (tm xs i) (by omega) (by omega) (by omega) (by omega) (by omega)) hP hD hS [31] rfl rfl rfl rfl rfl rfl rfl ⟨rfl, rfl⟩ ⟨by decide, by decide, by show cells + 1 + 0 ≤ 601024; omega, by show slots + 6 + 0 ≤ 7293034; omega⟩ (Nat.le_of_ble_eq_true rfl) d_Law_law_451 (fun H locs hP hD hS => ?_)
    have hP : va_P D vwCl (LW ad cl aZ bZ eZ eR gR bp nn i1 bk f doff dsv dm dn off sv B E 1 yr mn dy i2 cN eF gF rr fF oF bp nn f off sv) H := hP
    have hD : va_D (fun q => s.heap.size ≤ q) (LW ad cl aZ bZ eZ eR gR bp nn i1 bk f doff dsv dm dn off sv B E 1 yr mn dy i2 cN eF gF rr fF oF bp nn f off sv) := hD
    refine lv_istore (lv' := [(6, .int (iI 0)), (5, .int (iI 1)), (4, .int (iI ((i : Int)))), (0, .ref b), (1, .ref (ad 0)), (2, .ref (ad 7)), (3, .ref (ad 16))]) hx hb d_Law_law_454 hl (by decide) rfl (fun ls hl => ?_)
    refine lv_aload_n hx hb d_Law_law_456 rfl (lv_at hl 5 rfl) ?_
    refine p_callV (rest := []) (q0 := 0) hx hb (hml.trans hl.1.symm) hown hk hK k_Law_58 (ct_Ref_thrown l D tys (ad 7) (ad 8) (ad 9) (ad 10) (ad 11) (ad 12) (ad 13) (ad 14) (ad 15) 1 nn bp yr mn dy i2 ) (w_subP (is := [31]) hP rfl) (w_subD (is := [31]) hD rfl rfl) rfl rfl rfl rfl ⟨rfl, rfl⟩ ⟨by decide, by decide, by show cells + 1 + 0 ≤ 601024; omega, by show slots + 6 + 0 ≤ 7293034; omega⟩ (Nat.le_of_ble_eq_true rfl) d_Law_law_457 ?_
    refine lv_iload hx hb d_Law_law_460 (lv_at hl 1 rfl) ?_
    refine ri_icmp_eq (tgt := 467) hx hb d_Law_law_462 (by decide) (fun h462 => ?_) (fun h462 => ?_)
    · refine lv_iload hx hb d_Law_law_467 (lv_at hl 1 rfl) ?_
      refine ri_if_ne (tgt := 484) hx hb d_Law_law_469 (by decide) (fun h469 => ?_) (fun h469 => ?_)
      · refine lv_goto (tgt := 866) hx hb d_Law_law_484 (by decide) ?_
        refine W.widen (k := cells + 2) (n := slots + 12) (by omega) (by omega) ?_
        exact kk _ _ _ _ _ _ _ _ _ _ _ _ _ 1 _ _ _ _ _ _ _ _ _ _ H locs ls hLI hP hD hS (lv_sub hl [2, 3, 4, 5, 6] rfl)
      · exfalso; omega
    · exfalso; exact h462 rfl
