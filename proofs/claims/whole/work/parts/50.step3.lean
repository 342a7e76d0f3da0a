/-! The law's rounds: universal. By program (wip/whole/m_step.py). -/
set_option maxHeartbeats 4000000 in
set_option maxRecDepth 100000 in
theorem st_universal {p : Program} {l : Launch} {e : Env} {s : State} {m : MethodId} {below : List Frame} {meth : Method} {c : Code} {b L : Nat} {xs : Nat → Int32} {D : va_G} {tys : List (ClassId × FieldType)} {aS : Nat} {ad : Nat → Nat} {cl : Nat → ClassId} {aZ : Nat → Nat} {bZ : Nat → Nat} {eZ : Nat → Nat} {eR : Nat → Nat} {gR : Nat → Nat} {bp : Int} {nn : Nat} {i1 : Nat} {bk : Bool} {f : Nat → Int32} {doff : Int} {dsv : Int} {dm : RU} {dn : RU} {off : Nat → Int} {sv : Nat → Int} {B : Nat → RU} {E : Nat → RU} {fa : Int} {yr : Int} {mn : Int} {dy : Int} {i2 : Nat} {cN : Nat → Nat} {eF : Nat → Nat → Int} {gF : Nat → Nat → Bool} {rr : Nat → Int32} {fF : Nat → Int64} {oF : Nat → Int64} {i cells slots : Nat} {H : Heap} {locs : List Loc} {ls : Array Slot} {Q : State → Prop} (C0 : LC p l s m meth c b L xs D tys cl aS) (hLI : LI bp nn off sv B E cN eF gF) (hi : i + 6 ≤ L) (hcl : cells ≤ 600000) (hsl : slots ≤ 7000000) (hP : va_P D vwCl (LW ad cl aZ bZ eZ eR gR bp nn i1 bk f doff dsv dm dn off sv B E fa yr mn dy i2 cN eF gF rr fF oF bp nn f off sv) H) (hD : va_D (fun q => s.heap.size ≤ q) (LW ad cl aZ bZ eZ eR gR bp nn i1 bk f doff dsv dm dn off sv B E fa yr mn dy i2 cN eF gF rr fF oF bp nn f off sv)) (hS : va_S (fun q => s.heap.size ≤ q) s.heap H locs) (hl : lv_has ls 8 [(4, .int (iI (i : Int))), (0, .ref b), (1, .ref (ad 0)), (2, .ref (ad 7)), (3, .ref (ad 16))]) (kk : LK p l e s m below meth c b D ad cl aZ bZ eZ eR gR i (cells + 2) (slots + 12) Q) : W p l e room_1 s m #[.ref b] below meth c H locs cells slots Q (F0 m 487 ls []) := by
  obtain ⟨hx, hb, hr, hml, hown, hlk, hk, hK, hZ, hN, hXs, hbl, hL, hoff, hty, hI, hJ, hG, htz, hJJ, hGG⟩ := C0
  have hAS : ∀ q, s.heap.size ≤ q → q ≠ aS := fun q h => by have := hZ.2.2; omega
  have hbA : ¬ s.heap.size ≤ b := by omega
  have gbp := hLI.2.2.2
  have gt := tm_b xs i
  have g4 := i32_b (xs (i + 4))
  by_cases h4 : (xs (i + 4)).toInt = 0
  · skip
    by_cases hz : (0 ≤ (xs (i + 1)).toInt ∧ (xs (i + 1)).toInt < 8) ∧ (0 ≤ tm xs i ∧ tm xs i ≤ 10413791999999)
    · obtain ⟨⟨z1, z2⟩, ⟨gt1, gt2⟩⟩ := hz
      obtain ⟨zi, hzi⟩ : ∃ zi : Nat, (xs (i + 1)).toInt = (zi : Int) := ⟨((xs (i + 1)).toInt).toNat, by omega⟩
      have gz : zi < 8 := by omega
      obtain ⟨go1, go2, gs1, gs2, gc, hs, gb, ge⟩ := LI_z hLI gz
      have gr := hLI.2.1 zi gz
      have hAns := rel_uni gr gt1 gt2 false
      have hm := rel_many gr gt1 gt2
      have gA : -100000000000000 ≤ aUni (off zi) (sv zi) ((B zi).1, (B zi).2.1, (B zi).2.2.1, (B zi).2.2.2) ((E zi).1, (E zi).2.1, (E zi).2.2.1, (E zi).2.2.2) (tm xs i) false ∧ aUni (off zi) (sv zi) ((B zi).1, (B zi).2.1, (B zi).2.2.1, (B zi).2.2.2) ((E zi).1, (E zi).2.1, (E zi).2.2.1, (E zi).2.2.2) (tm xs i) false ≤ 100000000000000 := by unfold aUni; split <;> omega
      have gA2 : -100000000000000 ≤ rUni (rP1 (off zi) (sv zi) (cN zi) (eF zi) (gF zi) (tm xs i)) (rP2 (off zi) (sv zi) (cN zi) (eF zi) (gF zi) (tm xs i)) (rfA (off zi) (sv zi) (tm xs i)) (rfB (off zi) (tm xs i)) false ∧ rUni (rP1 (off zi) (sv zi) (cN zi) (eF zi) (gF zi) (tm xs i)) (rP2 (off zi) (sv zi) (cN zi) (eF zi) (gF zi) (tm xs i)) (rfA (off zi) (sv zi) (tm xs i)) (rfB (off zi) (tm xs i)) false ≤ 100000000000000 := by rw [rfA_is, rfB_is]; unfold rUni; split <;> omega
      by_cases gqC : aIn (off zi) (sv zi) (B zi) (E zi) (tm xs i) + aOut (off zi) (sv zi) (B zi) (E zi) (tm xs i) = 0
      · skip
        obtain ⟨gp1, gp2⟩ := bI_nor (hm.symm.trans gqC)
        refine lv_aload_n hx hb d_Law_law_487 rfl (lv_at hl 2 rfl) ?_
        refine lv_aload_n hx hb d_Law_law_488 rfl (lv_at hl 1 rfl) ?_
        refine lv_iload hx hb d_Law_law_489 (lv_at hl 0 rfl) ?_
        refine lv_iconst (v := iI 1) hx hb d_Law_law_491 rfl ?_
        refine ri_iadd hx hb d_Law_law_492 ?_
        refine ri_i (show ((i : Int)) + 1 = ((i + 1 : Nat) : Int) from by omega) ?_
        refine va_sld hx hb hXs hbl hbA hS (ix_in (i := i + 1) (by omega) (by omega)) d_Law_law_493 ?_
        rw [ix_cl (i := i + 1) (by omega)]
        have g1 := i32_b (xs (i + 1))
        refine ri_v (congrArg Value.int (iI_of (xs (i + 1))).symm) ?_
        refine ri_i hzi ?_
        refine lv_aload_n hx hb d_Law_law_494 rfl (lv_at hl 1 rfl) ?_
        refine lv_iload hx hb d_Law_law_495 (lv_at hl 0 rfl) ?_
        refine lv_iconst (v := iI 2) hx hb d_Law_law_497 rfl ?_
        refine ri_iadd hx hb d_Law_law_498 ?_
        refine ri_i (show ((i : Int)) + 2 = ((i + 2 : Nat) : Int) from by omega) ?_
        refine va_sld hx hb hXs hbl hbA hS (ix_in (i := i + 2) (by omega) (by omega)) d_Law_law_499 ?_
        rw [ix_cl (i := i + 2) (by omega)]
        have g2 := i32_b (xs (i + 2))
        refine ri_v (congrArg Value.int (iI_of (xs (i + 2))).symm) ?_
        refine ri_i2l hx hb d_Law_law_500 ?_
        refine lv_bipush (v := iI 32) hx hb d_Law_law_501 (by decide) ?_
        refine lv_lshl hx hb d_Law_law_503 rfl ?_
        refine lv_aload_n hx hb d_Law_law_504 rfl (lv_at hl 1 rfl) ?_
        refine lv_iload hx hb d_Law_law_505 (lv_at hl 0 rfl) ?_
        refine lv_iconst (v := iI 3) hx hb d_Law_law_507 rfl ?_
        refine ri_iadd hx hb d_Law_law_508 ?_
        refine ri_i (show ((i : Int)) + 3 = ((i + 3 : Nat) : Int) from by omega) ?_
        refine va_sld hx hb hXs hbl hbA hS (ix_in (i := i + 3) (by omega) (by omega)) d_Law_law_509 ?_
        rw [ix_cl (i := i + 3) (by omega)]
        have g3 := i32_b (xs (i + 3))
        refine ri_v (congrArg Value.int (iI_of (xs (i + 3))).symm) ?_
        refine ri_i2l hx hb d_Law_law_510 ?_
        refine lv_ldc2 (v := lL 4294967295) hx hb hown (hk _ kc_Law_70 _) d_Law_law_511 ?_
        refine lv_land hx hb d_Law_law_514 ?_
        refine lv_lor hx hb d_Law_law_515 ?_
        refine ri_v (y := .long (lL (tm xs i))) (congrArg Value.long (lL_of _).symm) ?_
        refine lv_aload_n hx hb d_Law_law_516 rfl (lv_at hl 1 rfl) ?_
        refine lv_iload hx hb d_Law_law_517 (lv_at hl 0 rfl) ?_
        refine lv_iconst (v := iI 4) hx hb d_Law_law_519 rfl ?_
        refine ri_iadd hx hb d_Law_law_520 ?_
        refine ri_i (show ((i : Int)) + 4 = ((i + 4 : Nat) : Int) from by omega) ?_
        refine va_sld hx hb hXs hbl hbA hS (ix_in (i := i + 4) (by omega) (by omega)) d_Law_law_521 ?_
        rw [ix_cl (i := i + 4) (by omega)]
        have g4 := i32_b (xs (i + 4))
        refine ri_v (congrArg Value.int (iI_of (xs (i + 4))).symm) ?_
        refine ri_if_eq (tgt := 529) hx hb d_Law_law_522 (by decide) (fun h522 => ?_) (fun h522 => ?_)
        · refine lv_iconst (v := iI 0) hx hb d_Law_law_529 rfl ?_
          refine lv_aload_n hx hb d_Law_law_530 rfl (lv_at hl 4 rfl) ?_
          refine t_call (t_runS (rest := []) hx hb (hml.trans hl.1.symm) hown hk hK k_Law_79 (ct_Law_universal_n l D tys aS hoff (ad 0) (ad 1) (ad 3) (ad 6) bp (cl 4) aZ zi (bZ zi) (eZ zi) (off zi) (sv zi) ((B zi).1) ((B zi).2.1) ((B zi).2.2.1) ((B zi).2.2.2) ((E zi).1) ((E zi).2.1) ((E zi).2.2.1) ((E zi).2.2.2) (tm xs i) false (ad 16) htz gz (by omega) (by omega) (by omega) (by omega) gb ge (by omega) (by omega) gqC) (w_subP (is := [0, 6, 7 + 3 * zi, 8 + 3 * zi, 9 + 3 * zi]) hP (by rcases z8 gz with rfl | rfl | rfl | rfl | rfl | rfl | rfl | rfl <;> rfl)) ((hD.sub [0, 6, 7 + 3 * zi, 8 + 3 * zi, 9 + 3 * zi] (by rcases z8 gz with rfl | rfl | rfl | rfl | rfl | rfl | rfl | rfl <;> rfl) (by rcases z8 gz with rfl | rfl | rfl | rfl | rfl | rfl | rfl | rfl <;> rfl)).weaken (fun _ q _ h => hAS q.1 h)) (hZ.kept (hS.2.1 aS hZ.2.2 (fun h => hAS aS h rfl))) hN rfl rfl ⟨by decide, by decide, by show cells + 1 ≤ 601024; omega, by show slots + 6 ≤ 7293034; omega⟩ (Nat.le_of_ble_eq_true rfl) d_Law_law_531) hP hD hS [0, 6, 7 + 3 * zi, 8 + 3 * zi, 9 + 3 * zi] (by rcases z8 gz with rfl | rfl | rfl | rfl | rfl | rfl | rfl | rfl <;> rfl) (fun w1 H locs hw hP hD hS => ?_)
          subst hw
          have hP : va_P D vwCl (LW ad cl aZ bZ eZ eR gR bp nn i1 bk f doff dsv dm dn off sv B E fa yr mn dy i2 cN eF gF rr fF oF bp nn f off sv) H := by rcases z8 gz with rfl | rfl | rfl | rfl | rfl | rfl | rfl | rfl <;> exact hP
          have hD : va_D (fun q => s.heap.size ≤ q) (LW ad cl aZ bZ eZ eR gR bp nn i1 bk f doff dsv dm dn off sv B E fa yr mn dy i2 cN eF gF rr fF oF bp nn f off sv) := by rcases z8 gz with rfl | rfl | rfl | rfl | rfl | rfl | rfl | rfl <;> exact hD
          refine lv_istore (lv' := [(5, .int (iI 2)), (4, .int (iI ((i : Int)))), (0, .ref b), (1, .ref (ad 0)), (2, .ref (ad 7)), (3, .ref (ad 16))]) hx hb d_Law_law_534 hl (by decide) rfl (fun ls hl => ?_)
          refine lv_aload_n hx hb d_Law_law_536 rfl (lv_at hl 4 rfl) ?_
          refine lv_aload_n hx hb d_Law_law_537 rfl (lv_at hl 2 rfl) ?_
          refine lv_iload hx hb d_Law_law_538 (lv_at hl 1 rfl) ?_
          refine lv_iconst (v := iI 1) hx hb d_Law_law_540 rfl ?_
          refine ri_iadd hx hb d_Law_law_541 ?_
          refine ri_i (show ((i : Int)) + 1 = ((i + 1 : Nat) : Int) from by omega) ?_
          refine va_sld hx hb hXs hbl hbA hS (ix_in (i := i + 1) (by omega) (by omega)) d_Law_law_542 ?_
          rw [ix_cl (i := i + 1) (by omega)]
          have g1 := i32_b (xs (i + 1))
          refine ri_v (congrArg Value.int (iI_of (xs (i + 1))).symm) ?_
          refine ri_i hzi ?_
          refine lv_aload_n hx hb d_Law_law_543 rfl (lv_at hl 2 rfl) ?_
          refine lv_iload hx hb d_Law_law_544 (lv_at hl 1 rfl) ?_
          refine lv_iconst (v := iI 2) hx hb d_Law_law_546 rfl ?_
          refine ri_iadd hx hb d_Law_law_547 ?_
          refine ri_i (show ((i : Int)) + 2 = ((i + 2 : Nat) : Int) from by omega) ?_
          refine va_sld hx hb hXs hbl hbA hS (ix_in (i := i + 2) (by omega) (by omega)) d_Law_law_548 ?_
          rw [ix_cl (i := i + 2) (by omega)]
          have g2 := i32_b (xs (i + 2))
          refine ri_v (congrArg Value.int (iI_of (xs (i + 2))).symm) ?_
          refine ri_i2l hx hb d_Law_law_549 ?_
          refine lv_bipush (v := iI 32) hx hb d_Law_law_550 (by decide) ?_
          refine lv_lshl hx hb d_Law_law_552 rfl ?_
          refine lv_aload_n hx hb d_Law_law_553 rfl (lv_at hl 2 rfl) ?_
          refine lv_iload hx hb d_Law_law_554 (lv_at hl 1 rfl) ?_
          refine lv_iconst (v := iI 3) hx hb d_Law_law_556 rfl ?_
          refine ri_iadd hx hb d_Law_law_557 ?_
          refine ri_i (show ((i : Int)) + 3 = ((i + 3 : Nat) : Int) from by omega) ?_
          refine va_sld hx hb hXs hbl hbA hS (ix_in (i := i + 3) (by omega) (by omega)) d_Law_law_558 ?_
          rw [ix_cl (i := i + 3) (by omega)]
          have g3 := i32_b (xs (i + 3))
          refine ri_v (congrArg Value.int (iI_of (xs (i + 3))).symm) ?_
          refine ri_i2l hx hb d_Law_law_559 ?_
          refine lv_ldc2 (v := lL 4294967295) hx hb hown (hk _ kc_Law_70 _) d_Law_law_560 ?_
          refine lv_land hx hb d_Law_law_563 ?_
          refine lv_lor hx hb d_Law_law_564 ?_
          refine ri_v (y := .long (lL (tm xs i))) (congrArg Value.long (lL_of _).symm) ?_
          refine lv_aload_n hx hb d_Law_law_565 rfl (lv_at hl 2 rfl) ?_
          refine lv_iload hx hb d_Law_law_566 (lv_at hl 1 rfl) ?_
          refine lv_iconst (v := iI 4) hx hb d_Law_law_568 rfl ?_
          refine ri_iadd hx hb d_Law_law_569 ?_
          refine ri_i (show ((i : Int)) + 4 = ((i + 4 : Nat) : Int) from by omega) ?_
          refine va_sld hx hb hXs hbl hbA hS (ix_in (i := i + 4) (by omega) (by omega)) d_Law_law_570 ?_
          rw [ix_cl (i := i + 4) (by omega)]
          have g4 := i32_b (xs (i + 4))
          refine ri_v (congrArg Value.int (iI_of (xs (i + 4))).symm) ?_
          refine ri_if_eq (tgt := 578) hx hb d_Law_law_571 (by decide) (fun h571 => ?_) (fun h571 => ?_)
          · refine lv_iconst (v := iI 0) hx hb d_Law_law_578 rfl ?_
            refine m_callV (rest := []) (q0 := 0) hx hb (hml.trans hl.1.symm) hown hk hK k_Law_82 (ct_Ref_universal_n l D tys (ad 7) (ad 8) (ad 9) (ad 10) (ad 11) (ad 12) (ad 13) (ad 14) (ad 15) fa nn bp yr mn dy i2 (cl 1) (cl 2) (cl 3) (cl 5) (cl 6) off sv cN eR gR zi (eF zi) (gF zi) fF (tm xs i) false hI hJ hG hJJ hGG gz gc (hLI.2.2.1 zi gz) hs (by omega) (by omega) (by omega) (by omega) (by omega) (by omega) gp1 gp2) hP hD hS [31, 33, 34, 35, 44, 53, 36 + zi, 45 + zi, 55] (by rcases z8 gz with rfl | rfl | rfl | rfl | rfl | rfl | rfl | rfl <;> rfl) (by rcases z8 gz with rfl | rfl | rfl | rfl | rfl | rfl | rfl | rfl <;> rfl) rfl rfl rfl rfl rfl ⟨rfl, rfl⟩ ⟨by decide, by decide, by show cells + 1 + 0 ≤ 601024; omega, by show slots + 6 + 0 ≤ 7293034; omega⟩ (Nat.le_of_ble_eq_true rfl) d_Law_law_579 (fun H locs hP hD hS => ?_)
            have hP : va_P D vwCl (LW ad cl aZ bZ eZ eR gR bp nn i1 bk f doff dsv dm dn off sv B E 2 yr mn dy i2 cN eF gF rr (rFnd (rP1 (off zi) (sv zi) (cN zi) (eF zi) (gF zi) (tm xs i)) (rP2 (off zi) (sv zi) (cN zi) (eF zi) (gF zi) (tm xs i)) (rfA (off zi) (sv zi) (tm xs i)) (rfB (off zi) (tm xs i)) fF) oF bp nn f off sv) H := by rcases z8 gz with rfl | rfl | rfl | rfl | rfl | rfl | rfl | rfl <;> exact hP
            have hD : va_D (fun q => s.heap.size ≤ q) (LW ad cl aZ bZ eZ eR gR bp nn i1 bk f doff dsv dm dn off sv B E 2 yr mn dy i2 cN eF gF rr (rFnd (rP1 (off zi) (sv zi) (cN zi) (eF zi) (gF zi) (tm xs i)) (rP2 (off zi) (sv zi) (cN zi) (eF zi) (gF zi) (tm xs i)) (rfA (off zi) (sv zi) (tm xs i)) (rfB (off zi) (tm xs i)) fF) oF bp nn f off sv) := by rcases z8 gz with rfl | rfl | rfl | rfl | rfl | rfl | rfl | rfl <;> exact hD
            refine lv_lstore (lv' := [(6, .long (lL 0)), (5, .int (iI 2)), (4, .int (iI ((i : Int)))), (0, .ref b), (1, .ref (ad 0)), (2, .ref (ad 7)), (3, .ref (ad 16))]) hx hb d_Law_law_582 hl (by decide) rfl (fun ls hl => ?_)
            refine lv_aload_n hx hb d_Law_law_584 rfl (lv_at hl 5 rfl) ?_
            refine p_callV (rest := []) (q0 := 0) hx hb (hml.trans hl.1.symm) hown hk hK k_Law_58 (ct_Ref_thrown l D tys (ad 7) (ad 8) (ad 9) (ad 10) (ad 11) (ad 12) (ad 13) (ad 14) (ad 15) 2 nn bp yr mn dy i2 ) (w_subP (is := [31]) hP rfl) (w_subD (is := [31]) hD rfl rfl) rfl rfl rfl rfl ⟨rfl, rfl⟩ ⟨by decide, by decide, by show cells + 1 + 0 ≤ 601024; omega, by show slots + 6 + 0 ≤ 7293034; omega⟩ (Nat.le_of_ble_eq_true rfl) d_Law_law_585 ?_
            refine lv_iload hx hb d_Law_law_588 (lv_at hl 1 rfl) ?_
            refine ri_icmp_eq (tgt := 595) hx hb d_Law_law_590 (by decide) (fun h590 => ?_) (fun h590 => ?_)
            · refine lv_iload hx hb d_Law_law_595 (lv_at hl 1 rfl) ?_
              refine ri_if_ne (tgt := 611) hx hb d_Law_law_597 (by decide) (fun h597 => ?_) (fun h597 => ?_)
              · refine lv_goto (tgt := 866) hx hb d_Law_law_611 (by decide) ?_
                refine W.widen (k := cells + 2) (n := slots + 12) (by omega) (by omega) ?_
                exact kk _ _ _ _ _ _ _ _ _ _ _ _ _ 2 _ _ _ _ _ _ _ _ (rFnd (rP1 (off zi) (sv zi) (cN zi) (eF zi) (gF zi) (tm xs i)) (rP2 (off zi) (sv zi) (cN zi) (eF zi) (gF zi) (tm xs i)) (rfA (off zi) (sv zi) (tm xs i)) (rfB (off zi) (tm xs i)) fF) _ H locs ls hLI hP hD hS (lv_sub hl [2, 3, 4, 5, 6] rfl)
              · exfalso; omega
            · exfalso; exact h590 rfl
          · exfalso; omega
        · exfalso; omega
      · skip
        have gpR := bI_or (fun q => gqC (hm.trans q))
        refine lv_aload_n hx hb d_Law_law_487 rfl (lv_at hl 2 rfl) ?_
        refine lv_aload_n hx hb d_Law_law_488 rfl (lv_at hl 1 rfl) ?_
        refine lv_iload hx hb d_Law_law_489 (lv_at hl 0 rfl) ?_
        refine lv_iconst (v := iI 1) hx hb d_Law_law_491 rfl ?_
        refine ri_iadd hx hb d_Law_law_492 ?_
        refine ri_i (show ((i : Int)) + 1 = ((i + 1 : Nat) : Int) from by omega) ?_
        refine va_sld hx hb hXs hbl hbA hS (ix_in (i := i + 1) (by omega) (by omega)) d_Law_law_493 ?_
        rw [ix_cl (i := i + 1) (by omega)]
        have g1 := i32_b (xs (i + 1))
        refine ri_v (congrArg Value.int (iI_of (xs (i + 1))).symm) ?_
        refine ri_i hzi ?_
        refine lv_aload_n hx hb d_Law_law_494 rfl (lv_at hl 1 rfl) ?_
        refine lv_iload hx hb d_Law_law_495 (lv_at hl 0 rfl) ?_
        refine lv_iconst (v := iI 2) hx hb d_Law_law_497 rfl ?_
        refine ri_iadd hx hb d_Law_law_498 ?_
        refine ri_i (show ((i : Int)) + 2 = ((i + 2 : Nat) : Int) from by omega) ?_
        refine va_sld hx hb hXs hbl hbA hS (ix_in (i := i + 2) (by omega) (by omega)) d_Law_law_499 ?_
        rw [ix_cl (i := i + 2) (by omega)]
        have g2 := i32_b (xs (i + 2))
        refine ri_v (congrArg Value.int (iI_of (xs (i + 2))).symm) ?_
        refine ri_i2l hx hb d_Law_law_500 ?_
        refine lv_bipush (v := iI 32) hx hb d_Law_law_501 (by decide) ?_
        refine lv_lshl hx hb d_Law_law_503 rfl ?_
        refine lv_aload_n hx hb d_Law_law_504 rfl (lv_at hl 1 rfl) ?_
        refine lv_iload hx hb d_Law_law_505 (lv_at hl 0 rfl) ?_
        refine lv_iconst (v := iI 3) hx hb d_Law_law_507 rfl ?_
        refine ri_iadd hx hb d_Law_law_508 ?_
        refine ri_i (show ((i : Int)) + 3 = ((i + 3 : Nat) : Int) from by omega) ?_
        refine va_sld hx hb hXs hbl hbA hS (ix_in (i := i + 3) (by omega) (by omega)) d_Law_law_509 ?_
        rw [ix_cl (i := i + 3) (by omega)]
        have g3 := i32_b (xs (i + 3))
        refine ri_v (congrArg Value.int (iI_of (xs (i + 3))).symm) ?_
        refine ri_i2l hx hb d_Law_law_510 ?_
        refine lv_ldc2 (v := lL 4294967295) hx hb hown (hk _ kc_Law_70 _) d_Law_law_511 ?_
        refine lv_land hx hb d_Law_law_514 ?_
        refine lv_lor hx hb d_Law_law_515 ?_
        refine ri_v (y := .long (lL (tm xs i))) (congrArg Value.long (lL_of _).symm) ?_
        refine lv_aload_n hx hb d_Law_law_516 rfl (lv_at hl 1 rfl) ?_
        refine lv_iload hx hb d_Law_law_517 (lv_at hl 0 rfl) ?_
        refine lv_iconst (v := iI 4) hx hb d_Law_law_519 rfl ?_
        refine ri_iadd hx hb d_Law_law_520 ?_
        refine ri_i (show ((i : Int)) + 4 = ((i + 4 : Nat) : Int) from by omega) ?_
        refine va_sld hx hb hXs hbl hbA hS (ix_in (i := i + 4) (by omega) (by omega)) d_Law_law_521 ?_
        rw [ix_cl (i := i + 4) (by omega)]
        have g4 := i32_b (xs (i + 4))
        refine ri_v (congrArg Value.int (iI_of (xs (i + 4))).symm) ?_
        refine ri_if_eq (tgt := 529) hx hb d_Law_law_522 (by decide) (fun h522 => ?_) (fun h522 => ?_)
        · refine lv_iconst (v := iI 0) hx hb d_Law_law_529 rfl ?_
          refine lv_aload_n hx hb d_Law_law_530 rfl (lv_at hl 4 rfl) ?_
          refine t_call (t_runS (rest := []) hx hb (hml.trans hl.1.symm) hown hk hK k_Law_79 (ct_Law_universal l D tys aS hoff (ad 0) (ad 1) (ad 3) (ad 6) bp (cl 4) aZ zi (bZ zi) (eZ zi) (off zi) (sv zi) ((B zi).1) ((B zi).2.1) ((B zi).2.2.1) ((B zi).2.2.2) ((E zi).1) ((E zi).2.1) ((E zi).2.2.1) ((E zi).2.2.2) (tm xs i) false (ad 16) (cl 2) oF hJ htz gz (by omega) (by omega) (by omega) (by omega) gb ge (by omega) (by omega) gqC) (w_subP (is := [0, 6, 7 + 3 * zi, 8 + 3 * zi, 9 + 3 * zi, 56]) hP (by rcases z8 gz with rfl | rfl | rfl | rfl | rfl | rfl | rfl | rfl <;> rfl)) ((hD.sub [0, 6, 7 + 3 * zi, 8 + 3 * zi, 9 + 3 * zi, 56] (by rcases z8 gz with rfl | rfl | rfl | rfl | rfl | rfl | rfl | rfl <;> rfl) (by rcases z8 gz with rfl | rfl | rfl | rfl | rfl | rfl | rfl | rfl <;> rfl)).weaken (fun _ q _ h => hAS q.1 h)) (hZ.kept (hS.2.1 aS hZ.2.2 (fun h => hAS aS h rfl))) hN rfl rfl ⟨by decide, by decide, by show cells + 0 ≤ 601024; omega, by show slots + 0 ≤ 7293034; omega⟩ (Nat.le_of_ble_eq_true rfl) d_Law_law_531) hP hD hS [0, 6, 7 + 3 * zi, 8 + 3 * zi, 9 + 3 * zi, 56] (by rcases z8 gz with rfl | rfl | rfl | rfl | rfl | rfl | rfl | rfl <;> rfl) (fun w1 H locs hw hP hD hS => ?_)
          subst hw
          have hP : va_P D vwCl (LW ad cl aZ bZ eZ eR gR bp nn i1 bk f doff dsv dm dn off sv B E fa yr mn dy i2 cN eF gF rr fF (vp_updL oF 0 (lL (aUni (off zi) (sv zi) (((B zi).1), ((B zi).2.1), ((B zi).2.2.1), ((B zi).2.2.2)) (((E zi).1), ((E zi).2.1), ((E zi).2.2.1), ((E zi).2.2.2)) (tm xs i) false))) bp nn f off sv) H := by rcases z8 gz with rfl | rfl | rfl | rfl | rfl | rfl | rfl | rfl <;> exact hP
          have hD : va_D (fun q => s.heap.size ≤ q) (LW ad cl aZ bZ eZ eR gR bp nn i1 bk f doff dsv dm dn off sv B E fa yr mn dy i2 cN eF gF rr fF (vp_updL oF 0 (lL (aUni (off zi) (sv zi) (((B zi).1), ((B zi).2.1), ((B zi).2.2.1), ((B zi).2.2.2)) (((E zi).1), ((E zi).2.1), ((E zi).2.2.1), ((E zi).2.2.2)) (tm xs i) false))) bp nn f off sv) := by rcases z8 gz with rfl | rfl | rfl | rfl | rfl | rfl | rfl | rfl <;> exact hD
          refine lv_istore (lv' := [(5, .int (iI 0)), (4, .int (iI ((i : Int)))), (0, .ref b), (1, .ref (ad 0)), (2, .ref (ad 7)), (3, .ref (ad 16))]) hx hb d_Law_law_534 hl (by decide) rfl (fun ls hl => ?_)
          refine lv_aload_n hx hb d_Law_law_536 rfl (lv_at hl 4 rfl) ?_
          refine lv_aload_n hx hb d_Law_law_537 rfl (lv_at hl 2 rfl) ?_
          refine lv_iload hx hb d_Law_law_538 (lv_at hl 1 rfl) ?_
          refine lv_iconst (v := iI 1) hx hb d_Law_law_540 rfl ?_
          refine ri_iadd hx hb d_Law_law_541 ?_
          refine ri_i (show ((i : Int)) + 1 = ((i + 1 : Nat) : Int) from by omega) ?_
          refine va_sld hx hb hXs hbl hbA hS (ix_in (i := i + 1) (by omega) (by omega)) d_Law_law_542 ?_
          rw [ix_cl (i := i + 1) (by omega)]
          have g1 := i32_b (xs (i + 1))
          refine ri_v (congrArg Value.int (iI_of (xs (i + 1))).symm) ?_
          refine ri_i hzi ?_
          refine lv_aload_n hx hb d_Law_law_543 rfl (lv_at hl 2 rfl) ?_
          refine lv_iload hx hb d_Law_law_544 (lv_at hl 1 rfl) ?_
          refine lv_iconst (v := iI 2) hx hb d_Law_law_546 rfl ?_
          refine ri_iadd hx hb d_Law_law_547 ?_
          refine ri_i (show ((i : Int)) + 2 = ((i + 2 : Nat) : Int) from by omega) ?_
          refine va_sld hx hb hXs hbl hbA hS (ix_in (i := i + 2) (by omega) (by omega)) d_Law_law_548 ?_
          rw [ix_cl (i := i + 2) (by omega)]
          have g2 := i32_b (xs (i + 2))
          refine ri_v (congrArg Value.int (iI_of (xs (i + 2))).symm) ?_
          refine ri_i2l hx hb d_Law_law_549 ?_
          refine lv_bipush (v := iI 32) hx hb d_Law_law_550 (by decide) ?_
          refine lv_lshl hx hb d_Law_law_552 rfl ?_
          refine lv_aload_n hx hb d_Law_law_553 rfl (lv_at hl 2 rfl) ?_
          refine lv_iload hx hb d_Law_law_554 (lv_at hl 1 rfl) ?_
          refine lv_iconst (v := iI 3) hx hb d_Law_law_556 rfl ?_
          refine ri_iadd hx hb d_Law_law_557 ?_
          refine ri_i (show ((i : Int)) + 3 = ((i + 3 : Nat) : Int) from by omega) ?_
          refine va_sld hx hb hXs hbl hbA hS (ix_in (i := i + 3) (by omega) (by omega)) d_Law_law_558 ?_
          rw [ix_cl (i := i + 3) (by omega)]
          have g3 := i32_b (xs (i + 3))
          refine ri_v (congrArg Value.int (iI_of (xs (i + 3))).symm) ?_
          refine ri_i2l hx hb d_Law_law_559 ?_
          refine lv_ldc2 (v := lL 4294967295) hx hb hown (hk _ kc_Law_70 _) d_Law_law_560 ?_
          refine lv_land hx hb d_Law_law_563 ?_
          refine lv_lor hx hb d_Law_law_564 ?_
          refine ri_v (y := .long (lL (tm xs i))) (congrArg Value.long (lL_of _).symm) ?_
          refine lv_aload_n hx hb d_Law_law_565 rfl (lv_at hl 2 rfl) ?_
          refine lv_iload hx hb d_Law_law_566 (lv_at hl 1 rfl) ?_
          refine lv_iconst (v := iI 4) hx hb d_Law_law_568 rfl ?_
          refine ri_iadd hx hb d_Law_law_569 ?_
          refine ri_i (show ((i : Int)) + 4 = ((i + 4 : Nat) : Int) from by omega) ?_
          refine va_sld hx hb hXs hbl hbA hS (ix_in (i := i + 4) (by omega) (by omega)) d_Law_law_570 ?_
          rw [ix_cl (i := i + 4) (by omega)]
          have g4 := i32_b (xs (i + 4))
          refine ri_v (congrArg Value.int (iI_of (xs (i + 4))).symm) ?_
          refine ri_if_eq (tgt := 578) hx hb d_Law_law_571 (by decide) (fun h571 => ?_) (fun h571 => ?_)
          · refine lv_iconst (v := iI 0) hx hb d_Law_law_578 rfl ?_
            refine m_callV (rest := []) (q0 := 0) hx hb (hml.trans hl.1.symm) hown hk hK k_Law_82 (ct_Ref_universal l D tys (ad 7) (ad 8) (ad 9) (ad 10) (ad 11) (ad 12) (ad 13) (ad 14) (ad 15) fa nn bp yr mn dy i2 (cl 1) (cl 2) (cl 3) (cl 5) (cl 6) off sv cN eR gR zi (eF zi) (gF zi) fF (tm xs i) false hI hJ hG hJJ hGG gz gc (hLI.2.2.1 zi gz) hs (by omega) (by omega) (by omega) (by omega) (by omega) (by omega) gpR) hP hD hS [31, 33, 34, 35, 44, 53, 36 + zi, 45 + zi, 55] (by rcases z8 gz with rfl | rfl | rfl | rfl | rfl | rfl | rfl | rfl <;> rfl) (by rcases z8 gz with rfl | rfl | rfl | rfl | rfl | rfl | rfl | rfl <;> rfl) rfl rfl rfl rfl rfl ⟨rfl, rfl⟩ ⟨by decide, by decide, by show cells + 0 ≤ 601024; omega, by show slots + 0 ≤ 7293034; omega⟩ (Nat.le_of_ble_eq_true rfl) d_Law_law_579 (fun H locs hP hD hS => ?_)
            have hP : va_P D vwCl (LW ad cl aZ bZ eZ eR gR bp nn i1 bk f doff dsv dm dn off sv B E 0 yr mn dy i2 cN eF gF rr (rFnd (rP1 (off zi) (sv zi) (cN zi) (eF zi) (gF zi) (tm xs i)) (rP2 (off zi) (sv zi) (cN zi) (eF zi) (gF zi) (tm xs i)) (rfA (off zi) (sv zi) (tm xs i)) (rfB (off zi) (tm xs i)) fF) (vp_updL oF 0 (lL (aUni (off zi) (sv zi) (((B zi).1), ((B zi).2.1), ((B zi).2.2.1), ((B zi).2.2.2)) (((E zi).1), ((E zi).2.1), ((E zi).2.2.1), ((E zi).2.2.2)) (tm xs i) false))) bp nn f off sv) H := by rcases z8 gz with rfl | rfl | rfl | rfl | rfl | rfl | rfl | rfl <;> exact hP
            have hD : va_D (fun q => s.heap.size ≤ q) (LW ad cl aZ bZ eZ eR gR bp nn i1 bk f doff dsv dm dn off sv B E 0 yr mn dy i2 cN eF gF rr (rFnd (rP1 (off zi) (sv zi) (cN zi) (eF zi) (gF zi) (tm xs i)) (rP2 (off zi) (sv zi) (cN zi) (eF zi) (gF zi) (tm xs i)) (rfA (off zi) (sv zi) (tm xs i)) (rfB (off zi) (tm xs i)) fF) (vp_updL oF 0 (lL (aUni (off zi) (sv zi) (((B zi).1), ((B zi).2.1), ((B zi).2.2.1), ((B zi).2.2.2)) (((E zi).1), ((E zi).2.1), ((E zi).2.2.1), ((E zi).2.2.2)) (tm xs i) false))) bp nn f off sv) := by rcases z8 gz with rfl | rfl | rfl | rfl | rfl | rfl | rfl | rfl <;> exact hD
            refine lv_lstore (lv' := [(6, .long (lL (rUni (rP1 (off zi) (sv zi) (cN zi) (eF zi) (gF zi) (tm xs i)) (rP2 (off zi) (sv zi) (cN zi) (eF zi) (gF zi) (tm xs i)) (rfA (off zi) (sv zi) (tm xs i)) (rfB (off zi) (tm xs i)) false))), (5, .int (iI 0)), (4, .int (iI ((i : Int)))), (0, .ref b), (1, .ref (ad 0)), (2, .ref (ad 7)), (3, .ref (ad 16))]) hx hb d_Law_law_582 hl (by decide) rfl (fun ls hl => ?_)
            refine lv_aload_n hx hb d_Law_law_584 rfl (lv_at hl 5 rfl) ?_
            refine p_callV (rest := []) (q0 := 0) hx hb (hml.trans hl.1.symm) hown hk hK k_Law_58 (ct_Ref_thrown l D tys (ad 7) (ad 8) (ad 9) (ad 10) (ad 11) (ad 12) (ad 13) (ad 14) (ad 15) 0 nn bp yr mn dy i2 ) (w_subP (is := [31]) hP rfl) (w_subD (is := [31]) hD rfl rfl) rfl rfl rfl rfl ⟨rfl, rfl⟩ ⟨by decide, by decide, by show cells + 0 ≤ 601024; omega, by show slots + 0 ≤ 7293034; omega⟩ (Nat.le_of_ble_eq_true rfl) d_Law_law_585 ?_
            refine lv_iload hx hb d_Law_law_588 (lv_at hl 1 rfl) ?_
            refine ri_icmp_eq (tgt := 595) hx hb d_Law_law_590 (by decide) (fun h590 => ?_) (fun h590 => ?_)
            · refine lv_iload hx hb d_Law_law_595 (lv_at hl 1 rfl) ?_
              refine ri_if_ne (tgt := 611) hx hb d_Law_law_597 (by decide) (fun h597 => ?_) (fun h597 => ?_)
              · exfalso; exact h597 rfl
              · refine lv_aload_n hx hb d_Law_law_600 rfl (lv_at hl 6 rfl) ?_
                refine lv_iconst (v := iI 0) hx hb d_Law_law_601 rfl ?_
                refine ri_i (show (0 : Int) = ((0 : Nat) : Int) from rfl) ?_
                refine g_lald (i := 0) hx hb hK hP 56 2 rfl hJ d_Law_law_602 ?_ (by decide) (by decide)
                refine ri_v (y := .long (lL (aUni (off zi) (sv zi) (((B zi).1), ((B zi).2.1), ((B zi).2.2.1), ((B zi).2.2.2)) (((E zi).1), ((E zi).2.1), ((E zi).2.2.1), ((E zi).2.2.2)) (tm xs i) false))) rfl ?_
                refine lv_lload hx hb d_Law_law_603 (lv_at hl 0 rfl) ?_
                refine ri_lcmp_eq (tgt := 611) hx hb d_Law_law_605 d_Law_law_606 (by decide) (fun h605 => ?_) (fun h605 => ?_)
                · refine lv_goto (tgt := 866) hx hb d_Law_law_611 (by decide) ?_
                  refine W.widen (k := cells + 2) (n := slots + 12) (by omega) (by omega) ?_
                  exact kk _ _ _ _ _ _ _ _ _ _ _ _ _ 0 _ _ _ _ _ _ _ _ (rFnd (rP1 (off zi) (sv zi) (cN zi) (eF zi) (gF zi) (tm xs i)) (rP2 (off zi) (sv zi) (cN zi) (eF zi) (gF zi) (tm xs i)) (rfA (off zi) (sv zi) (tm xs i)) (rfB (off zi) (tm xs i)) fF) (vp_updL oF 0 (lL (aUni (off zi) (sv zi) (((B zi).1), ((B zi).2.1), ((B zi).2.2.1), ((B zi).2.2.2)) (((E zi).1), ((E zi).2.1), ((E zi).2.2.1), ((E zi).2.2.2)) (tm xs i) false))) H locs ls hLI hP hD hS (lv_sub hl [2, 3, 4, 5, 6] rfl)
                · exfalso; exact h605 hAns
            · exfalso; exact h590 rfl
          · exfalso; omega
        · exfalso; omega
    · skip
      refine lv_aload_n hx hb d_Law_law_487 rfl (lv_at hl 2 rfl) ?_
      refine lv_aload_n hx hb d_Law_law_488 rfl (lv_at hl 1 rfl) ?_
      refine lv_iload hx hb d_Law_law_489 (lv_at hl 0 rfl) ?_
      refine lv_iconst (v := iI 1) hx hb d_Law_law_491 rfl ?_
      refine ri_iadd hx hb d_Law_law_492 ?_
      refine ri_i (show ((i : Int)) + 1 = ((i + 1 : Nat) : Int) from by omega) ?_
      refine va_sld hx hb hXs hbl hbA hS (ix_in (i := i + 1) (by omega) (by omega)) d_Law_law_493 ?_
      rw [ix_cl (i := i + 1) (by omega)]
      have g1 := i32_b (xs (i + 1))
      refine ri_v (congrArg Value.int (iI_of (xs (i + 1))).symm) ?_
      refine lv_aload_n hx hb d_Law_law_494 rfl (lv_at hl 1 rfl) ?_
      refine lv_iload hx hb d_Law_law_495 (lv_at hl 0 rfl) ?_
      refine lv_iconst (v := iI 2) hx hb d_Law_law_497 rfl ?_
      refine ri_iadd hx hb d_Law_law_498 ?_
      refine ri_i (show ((i : Int)) + 2 = ((i + 2 : Nat) : Int) from by omega) ?_
      refine va_sld hx hb hXs hbl hbA hS (ix_in (i := i + 2) (by omega) (by omega)) d_Law_law_499 ?_
      rw [ix_cl (i := i + 2) (by omega)]
      have g2 := i32_b (xs (i + 2))
      refine ri_v (congrArg Value.int (iI_of (xs (i + 2))).symm) ?_
      refine ri_i2l hx hb d_Law_law_500 ?_
      refine lv_bipush (v := iI 32) hx hb d_Law_law_501 (by decide) ?_
      refine lv_lshl hx hb d_Law_law_503 rfl ?_
      refine lv_aload_n hx hb d_Law_law_504 rfl (lv_at hl 1 rfl) ?_
      refine lv_iload hx hb d_Law_law_505 (lv_at hl 0 rfl) ?_
      refine lv_iconst (v := iI 3) hx hb d_Law_law_507 rfl ?_
      refine ri_iadd hx hb d_Law_law_508 ?_
      refine ri_i (show ((i : Int)) + 3 = ((i + 3 : Nat) : Int) from by omega) ?_
      refine va_sld hx hb hXs hbl hbA hS (ix_in (i := i + 3) (by omega) (by omega)) d_Law_law_509 ?_
      rw [ix_cl (i := i + 3) (by omega)]
      have g3 := i32_b (xs (i + 3))
      refine ri_v (congrArg Value.int (iI_of (xs (i + 3))).symm) ?_
      refine ri_i2l hx hb d_Law_law_510 ?_
      refine lv_ldc2 (v := lL 4294967295) hx hb hown (hk _ kc_Law_70 _) d_Law_law_511 ?_
      refine lv_land hx hb d_Law_law_514 ?_
      refine lv_lor hx hb d_Law_law_515 ?_
      refine ri_v (y := .long (lL (tm xs i))) (congrArg Value.long (lL_of _).symm) ?_
      refine lv_aload_n hx hb d_Law_law_516 rfl (lv_at hl 1 rfl) ?_
      refine lv_iload hx hb d_Law_law_517 (lv_at hl 0 rfl) ?_
      refine lv_iconst (v := iI 4) hx hb d_Law_law_519 rfl ?_
      refine ri_iadd hx hb d_Law_law_520 ?_
      refine ri_i (show ((i : Int)) + 4 = ((i + 4 : Nat) : Int) from by omega) ?_
      refine va_sld hx hb hXs hbl hbA hS (ix_in (i := i + 4) (by omega) (by omega)) d_Law_law_521 ?_
      rw [ix_cl (i := i + 4) (by omega)]
      have g4 := i32_b (xs (i + 4))
      refine ri_v (congrArg Value.int (iI_of (xs (i + 4))).symm) ?_
      refine ri_if_eq (tgt := 529) hx hb d_Law_law_522 (by decide) (fun h522 => ?_) (fun h522 => ?_)
      · refine lv_iconst (v := iI 0) hx hb d_Law_law_529 rfl ?_
        refine lv_aload_n hx hb d_Law_law_530 rfl (lv_at hl 4 rfl) ?_
        refine t_call (t_runS (rest := []) hx hb (hml.trans hl.1.symm) hown hk hK k_Law_79 (ct_Law_universal_x l D tys aS hoff (ad 0) (ad 1) (ad 3) (ad 6) bp (cl 4) aZ ((xs (i + 1)).toInt) (tm xs i) false (ad 16) htz (by omega) (by omega) (by omega) (by omega) (by omega)) (w_subP (is := [0, 6]) hP rfl) ((hD.sub [0, 6] rfl rfl).weaken (fun _ q _ h => hAS q.1 h)) (hZ.kept (hS.2.1 aS hZ.2.2 (fun h => hAS aS h rfl))) hN rfl rfl ⟨by decide, by decide, by show cells + 1 ≤ 601024; omega, by show slots + 6 ≤ 7293034; omega⟩ (Nat.le_of_ble_eq_true rfl) d_Law_law_531) hP hD hS [0, 6] rfl (fun w1 H locs hw hP hD hS => ?_)
        subst hw
        have hP : va_P D vwCl (LW ad cl aZ bZ eZ eR gR bp nn i1 bk f doff dsv dm dn off sv B E fa yr mn dy i2 cN eF gF rr fF oF bp nn f off sv) H := hP
        have hD : va_D (fun q => s.heap.size ≤ q) (LW ad cl aZ bZ eZ eR gR bp nn i1 bk f doff dsv dm dn off sv B E fa yr mn dy i2 cN eF gF rr fF oF bp nn f off sv) := hD
        refine lv_istore (lv' := [(5, .int (iI 1)), (4, .int (iI ((i : Int)))), (0, .ref b), (1, .ref (ad 0)), (2, .ref (ad 7)), (3, .ref (ad 16))]) hx hb d_Law_law_534 hl (by decide) rfl (fun ls hl => ?_)
        refine lv_aload_n hx hb d_Law_law_536 rfl (lv_at hl 4 rfl) ?_
        refine lv_aload_n hx hb d_Law_law_537 rfl (lv_at hl 2 rfl) ?_
        refine lv_iload hx hb d_Law_law_538 (lv_at hl 1 rfl) ?_
        refine lv_iconst (v := iI 1) hx hb d_Law_law_540 rfl ?_
        refine ri_iadd hx hb d_Law_law_541 ?_
        refine ri_i (show ((i : Int)) + 1 = ((i + 1 : Nat) : Int) from by omega) ?_
        refine va_sld hx hb hXs hbl hbA hS (ix_in (i := i + 1) (by omega) (by omega)) d_Law_law_542 ?_
        rw [ix_cl (i := i + 1) (by omega)]
        have g1 := i32_b (xs (i + 1))
        refine ri_v (congrArg Value.int (iI_of (xs (i + 1))).symm) ?_
        refine lv_aload_n hx hb d_Law_law_543 rfl (lv_at hl 2 rfl) ?_
        refine lv_iload hx hb d_Law_law_544 (lv_at hl 1 rfl) ?_
        refine lv_iconst (v := iI 2) hx hb d_Law_law_546 rfl ?_
        refine ri_iadd hx hb d_Law_law_547 ?_
        refine ri_i (show ((i : Int)) + 2 = ((i + 2 : Nat) : Int) from by omega) ?_
        refine va_sld hx hb hXs hbl hbA hS (ix_in (i := i + 2) (by omega) (by omega)) d_Law_law_548 ?_
        rw [ix_cl (i := i + 2) (by omega)]
        have g2 := i32_b (xs (i + 2))
        refine ri_v (congrArg Value.int (iI_of (xs (i + 2))).symm) ?_
        refine ri_i2l hx hb d_Law_law_549 ?_
        refine lv_bipush (v := iI 32) hx hb d_Law_law_550 (by decide) ?_
        refine lv_lshl hx hb d_Law_law_552 rfl ?_
        refine lv_aload_n hx hb d_Law_law_553 rfl (lv_at hl 2 rfl) ?_
        refine lv_iload hx hb d_Law_law_554 (lv_at hl 1 rfl) ?_
        refine lv_iconst (v := iI 3) hx hb d_Law_law_556 rfl ?_
        refine ri_iadd hx hb d_Law_law_557 ?_
        refine ri_i (show ((i : Int)) + 3 = ((i + 3 : Nat) : Int) from by omega) ?_
        refine va_sld hx hb hXs hbl hbA hS (ix_in (i := i + 3) (by omega) (by omega)) d_Law_law_558 ?_
        rw [ix_cl (i := i + 3) (by omega)]
        have g3 := i32_b (xs (i + 3))
        refine ri_v (congrArg Value.int (iI_of (xs (i + 3))).symm) ?_
        refine ri_i2l hx hb d_Law_law_559 ?_
        refine lv_ldc2 (v := lL 4294967295) hx hb hown (hk _ kc_Law_70 _) d_Law_law_560 ?_
        refine lv_land hx hb d_Law_law_563 ?_
        refine lv_lor hx hb d_Law_law_564 ?_
        refine ri_v (y := .long (lL (tm xs i))) (congrArg Value.long (lL_of _).symm) ?_
        refine lv_aload_n hx hb d_Law_law_565 rfl (lv_at hl 2 rfl) ?_
        refine lv_iload hx hb d_Law_law_566 (lv_at hl 1 rfl) ?_
        refine lv_iconst (v := iI 4) hx hb d_Law_law_568 rfl ?_
        refine ri_iadd hx hb d_Law_law_569 ?_
        refine ri_i (show ((i : Int)) + 4 = ((i + 4 : Nat) : Int) from by omega) ?_
        refine va_sld hx hb hXs hbl hbA hS (ix_in (i := i + 4) (by omega) (by omega)) d_Law_law_570 ?_
        rw [ix_cl (i := i + 4) (by omega)]
        have g4 := i32_b (xs (i + 4))
        refine ri_v (congrArg Value.int (iI_of (xs (i + 4))).symm) ?_
        refine ri_if_eq (tgt := 578) hx hb d_Law_law_571 (by decide) (fun h571 => ?_) (fun h571 => ?_)
        · refine lv_iconst (v := iI 0) hx hb d_Law_law_578 rfl ?_
          refine m_callV (rest := []) (q0 := 0) hx hb (hml.trans hl.1.symm) hown hk hK k_Law_82 (ct_Ref_universal_b l D tys (ad 7) (ad 8) (ad 9) (ad 10) (ad 11) (ad 12) (ad 13) (ad 14) (ad 15) fa nn bp yr mn dy i2 ((xs (i + 1)).toInt) (tm xs i) false (by omega) (by omega) (by omega) (by omega) (by omega)) hP hD hS [31] rfl rfl rfl rfl rfl rfl rfl ⟨rfl, rfl⟩ ⟨by decide, by decide, by show cells + 1 + 0 ≤ 601024; omega, by show slots + 6 + 0 ≤ 7293034; omega⟩ (Nat.le_of_ble_eq_true rfl) d_Law_law_579 (fun H locs hP hD hS => ?_)
          have hP : va_P D vwCl (LW ad cl aZ bZ eZ eR gR bp nn i1 bk f doff dsv dm dn off sv B E 1 yr mn dy i2 cN eF gF rr fF oF bp nn f off sv) H := hP
          have hD : va_D (fun q => s.heap.size ≤ q) (LW ad cl aZ bZ eZ eR gR bp nn i1 bk f doff dsv dm dn off sv B E 1 yr mn dy i2 cN eF gF rr fF oF bp nn f off sv) := hD
          refine lv_lstore (lv' := [(6, .long (lL 0)), (5, .int (iI 1)), (4, .int (iI ((i : Int)))), (0, .ref b), (1, .ref (ad 0)), (2, .ref (ad 7)), (3, .ref (ad 16))]) hx hb d_Law_law_582 hl (by decide) rfl (fun ls hl => ?_)
          refine lv_aload_n hx hb d_Law_law_584 rfl (lv_at hl 5 rfl) ?_
          refine p_callV (rest := []) (q0 := 0) hx hb (hml.trans hl.1.symm) hown hk hK k_Law_58 (ct_Ref_thrown l D tys (ad 7) (ad 8) (ad 9) (ad 10) (ad 11) (ad 12) (ad 13) (ad 14) (ad 15) 1 nn bp yr mn dy i2 ) (w_subP (is := [31]) hP rfl) (w_subD (is := [31]) hD rfl rfl) rfl rfl rfl rfl ⟨rfl, rfl⟩ ⟨by decide, by decide, by show cells + 1 + 0 ≤ 601024; omega, by show slots + 6 + 0 ≤ 7293034; omega⟩ (Nat.le_of_ble_eq_true rfl) d_Law_law_585 ?_
          refine lv_iload hx hb d_Law_law_588 (lv_at hl 1 rfl) ?_
          refine ri_icmp_eq (tgt := 595) hx hb d_Law_law_590 (by decide) (fun h590 => ?_) (fun h590 => ?_)
          · refine lv_iload hx hb d_Law_law_595 (lv_at hl 1 rfl) ?_
            refine ri_if_ne (tgt := 611) hx hb d_Law_law_597 (by decide) (fun h597 => ?_) (fun h597 => ?_)
            · refine lv_goto (tgt := 866) hx hb d_Law_law_611 (by decide) ?_
              refine W.widen (k := cells + 2) (n := slots + 12) (by omega) (by omega) ?_
              exact kk _ _ _ _ _ _ _ _ _ _ _ _ _ 1 _ _ _ _ _ _ _ _ _ _ H locs ls hLI hP hD hS (lv_sub hl [2, 3, 4, 5, 6] rfl)
            · exfalso; omega
          · exfalso; exact h590 rfl
        · exfalso; omega
      · exfalso; omega
  · skip
    by_cases hz : (0 ≤ (xs (i + 1)).toInt ∧ (xs (i + 1)).toInt < 8) ∧ (0 ≤ tm xs i ∧ tm xs i ≤ 10413791999999)
    · obtain ⟨⟨z1, z2⟩, ⟨gt1, gt2⟩⟩ := hz
      obtain ⟨zi, hzi⟩ : ∃ zi : Nat, (xs (i + 1)).toInt = (zi : Int) := ⟨((xs (i + 1)).toInt).toNat, by omega⟩
      have gz : zi < 8 := by omega
      obtain ⟨go1, go2, gs1, gs2, gc, hs, gb, ge⟩ := LI_z hLI gz
      have gr := hLI.2.1 zi gz
      have hAns := rel_uni gr gt1 gt2 true
      have hm := rel_many gr gt1 gt2
      have gA : -100000000000000 ≤ aUni (off zi) (sv zi) ((B zi).1, (B zi).2.1, (B zi).2.2.1, (B zi).2.2.2) ((E zi).1, (E zi).2.1, (E zi).2.2.1, (E zi).2.2.2) (tm xs i) true ∧ aUni (off zi) (sv zi) ((B zi).1, (B zi).2.1, (B zi).2.2.1, (B zi).2.2.2) ((E zi).1, (E zi).2.1, (E zi).2.2.1, (E zi).2.2.2) (tm xs i) true ≤ 100000000000000 := by unfold aUni; split <;> omega
      have gA2 : -100000000000000 ≤ rUni (rP1 (off zi) (sv zi) (cN zi) (eF zi) (gF zi) (tm xs i)) (rP2 (off zi) (sv zi) (cN zi) (eF zi) (gF zi) (tm xs i)) (rfA (off zi) (sv zi) (tm xs i)) (rfB (off zi) (tm xs i)) true ∧ rUni (rP1 (off zi) (sv zi) (cN zi) (eF zi) (gF zi) (tm xs i)) (rP2 (off zi) (sv zi) (cN zi) (eF zi) (gF zi) (tm xs i)) (rfA (off zi) (sv zi) (tm xs i)) (rfB (off zi) (tm xs i)) true ≤ 100000000000000 := by rw [rfA_is, rfB_is]; unfold rUni; split <;> omega
      by_cases gqC : aIn (off zi) (sv zi) (B zi) (E zi) (tm xs i) + aOut (off zi) (sv zi) (B zi) (E zi) (tm xs i) = 0
      · skip
        obtain ⟨gp1, gp2⟩ := bI_nor (hm.symm.trans gqC)
        refine lv_aload_n hx hb d_Law_law_487 rfl (lv_at hl 2 rfl) ?_
        refine lv_aload_n hx hb d_Law_law_488 rfl (lv_at hl 1 rfl) ?_
        refine lv_iload hx hb d_Law_law_489 (lv_at hl 0 rfl) ?_
        refine lv_iconst (v := iI 1) hx hb d_Law_law_491 rfl ?_
        refine ri_iadd hx hb d_Law_law_492 ?_
        refine ri_i (show ((i : Int)) + 1 = ((i + 1 : Nat) : Int) from by omega) ?_
        refine va_sld hx hb hXs hbl hbA hS (ix_in (i := i + 1) (by omega) (by omega)) d_Law_law_493 ?_
        rw [ix_cl (i := i + 1) (by omega)]
        have g1 := i32_b (xs (i + 1))
        refine ri_v (congrArg Value.int (iI_of (xs (i + 1))).symm) ?_
        refine ri_i hzi ?_
        refine lv_aload_n hx hb d_Law_law_494 rfl (lv_at hl 1 rfl) ?_
        refine lv_iload hx hb d_Law_law_495 (lv_at hl 0 rfl) ?_
        refine lv_iconst (v := iI 2) hx hb d_Law_law_497 rfl ?_
        refine ri_iadd hx hb d_Law_law_498 ?_
        refine ri_i (show ((i : Int)) + 2 = ((i + 2 : Nat) : Int) from by omega) ?_
        refine va_sld hx hb hXs hbl hbA hS (ix_in (i := i + 2) (by omega) (by omega)) d_Law_law_499 ?_
        rw [ix_cl (i := i + 2) (by omega)]
        have g2 := i32_b (xs (i + 2))
        refine ri_v (congrArg Value.int (iI_of (xs (i + 2))).symm) ?_
        refine ri_i2l hx hb d_Law_law_500 ?_
        refine lv_bipush (v := iI 32) hx hb d_Law_law_501 (by decide) ?_
        refine lv_lshl hx hb d_Law_law_503 rfl ?_
        refine lv_aload_n hx hb d_Law_law_504 rfl (lv_at hl 1 rfl) ?_
        refine lv_iload hx hb d_Law_law_505 (lv_at hl 0 rfl) ?_
        refine lv_iconst (v := iI 3) hx hb d_Law_law_507 rfl ?_
        refine ri_iadd hx hb d_Law_law_508 ?_
        refine ri_i (show ((i : Int)) + 3 = ((i + 3 : Nat) : Int) from by omega) ?_
        refine va_sld hx hb hXs hbl hbA hS (ix_in (i := i + 3) (by omega) (by omega)) d_Law_law_509 ?_
        rw [ix_cl (i := i + 3) (by omega)]
        have g3 := i32_b (xs (i + 3))
        refine ri_v (congrArg Value.int (iI_of (xs (i + 3))).symm) ?_
        refine ri_i2l hx hb d_Law_law_510 ?_
        refine lv_ldc2 (v := lL 4294967295) hx hb hown (hk _ kc_Law_70 _) d_Law_law_511 ?_
        refine lv_land hx hb d_Law_law_514 ?_
        refine lv_lor hx hb d_Law_law_515 ?_
        refine ri_v (y := .long (lL (tm xs i))) (congrArg Value.long (lL_of _).symm) ?_
        refine lv_aload_n hx hb d_Law_law_516 rfl (lv_at hl 1 rfl) ?_
        refine lv_iload hx hb d_Law_law_517 (lv_at hl 0 rfl) ?_
        refine lv_iconst (v := iI 4) hx hb d_Law_law_519 rfl ?_
        refine ri_iadd hx hb d_Law_law_520 ?_
        refine ri_i (show ((i : Int)) + 4 = ((i + 4 : Nat) : Int) from by omega) ?_
        refine va_sld hx hb hXs hbl hbA hS (ix_in (i := i + 4) (by omega) (by omega)) d_Law_law_521 ?_
        rw [ix_cl (i := i + 4) (by omega)]
        have g4 := i32_b (xs (i + 4))
        refine ri_v (congrArg Value.int (iI_of (xs (i + 4))).symm) ?_
        refine ri_if_eq (tgt := 529) hx hb d_Law_law_522 (by decide) (fun h522 => ?_) (fun h522 => ?_)
        · exfalso; omega
        · refine lv_iconst (v := iI 1) hx hb d_Law_law_525 rfl ?_
          refine lv_goto (tgt := 530) hx hb d_Law_law_526 (by decide) ?_
          refine lv_aload_n hx hb d_Law_law_530 rfl (lv_at hl 4 rfl) ?_
          refine t_call (t_runS (rest := []) hx hb (hml.trans hl.1.symm) hown hk hK k_Law_79 (ct_Law_universal_n l D tys aS hoff (ad 0) (ad 1) (ad 3) (ad 6) bp (cl 4) aZ zi (bZ zi) (eZ zi) (off zi) (sv zi) ((B zi).1) ((B zi).2.1) ((B zi).2.2.1) ((B zi).2.2.2) ((E zi).1) ((E zi).2.1) ((E zi).2.2.1) ((E zi).2.2.2) (tm xs i) true (ad 16) htz gz (by omega) (by omega) (by omega) (by omega) gb ge (by omega) (by omega) gqC) (w_subP (is := [0, 6, 7 + 3 * zi, 8 + 3 * zi, 9 + 3 * zi]) hP (by rcases z8 gz with rfl | rfl | rfl | rfl | rfl | rfl | rfl | rfl <;> rfl)) ((hD.sub [0, 6, 7 + 3 * zi, 8 + 3 * zi, 9 + 3 * zi] (by rcases z8 gz with rfl | rfl | rfl | rfl | rfl | rfl | rfl | rfl <;> rfl) (by rcases z8 gz with rfl | rfl | rfl | rfl | rfl | rfl | rfl | rfl <;> rfl)).weaken (fun _ q _ h => hAS q.1 h)) (hZ.kept (hS.2.1 aS hZ.2.2 (fun h => hAS aS h rfl))) hN rfl rfl ⟨by decide, by decide, by show cells + 1 ≤ 601024; omega, by show slots + 6 ≤ 7293034; omega⟩ (Nat.le_of_ble_eq_true rfl) d_Law_law_531) hP hD hS [0, 6, 7 + 3 * zi, 8 + 3 * zi, 9 + 3 * zi] (by rcases z8 gz with rfl | rfl | rfl | rfl | rfl | rfl | rfl | rfl <;> rfl) (fun w1 H locs hw hP hD hS => ?_)
          subst hw
          have hP : va_P D vwCl (LW ad cl aZ bZ eZ eR gR bp nn i1 bk f doff dsv dm dn off sv B E fa yr mn dy i2 cN eF gF rr fF oF bp nn f off sv) H := by rcases z8 gz with rfl | rfl | rfl | rfl | rfl | rfl | rfl | rfl <;> exact hP
          have hD : va_D (fun q => s.heap.size ≤ q) (LW ad cl aZ bZ eZ eR gR bp nn i1 bk f doff dsv dm dn off sv B E fa yr mn dy i2 cN eF gF rr fF oF bp nn f off sv) := by rcases z8 gz with rfl | rfl | rfl | rfl | rfl | rfl | rfl | rfl <;> exact hD
          refine lv_istore (lv' := [(5, .int (iI 2)), (4, .int (iI ((i : Int)))), (0, .ref b), (1, .ref (ad 0)), (2, .ref (ad 7)), (3, .ref (ad 16))]) hx hb d_Law_law_534 hl (by decide) rfl (fun ls hl => ?_)
          refine lv_aload_n hx hb d_Law_law_536 rfl (lv_at hl 4 rfl) ?_
          refine lv_aload_n hx hb d_Law_law_537 rfl (lv_at hl 2 rfl) ?_
          refine lv_iload hx hb d_Law_law_538 (lv_at hl 1 rfl) ?_
          refine lv_iconst (v := iI 1) hx hb d_Law_law_540 rfl ?_
          refine ri_iadd hx hb d_Law_law_541 ?_
          refine ri_i (show ((i : Int)) + 1 = ((i + 1 : Nat) : Int) from by omega) ?_
          refine va_sld hx hb hXs hbl hbA hS (ix_in (i := i + 1) (by omega) (by omega)) d_Law_law_542 ?_
          rw [ix_cl (i := i + 1) (by omega)]
          have g1 := i32_b (xs (i + 1))
          refine ri_v (congrArg Value.int (iI_of (xs (i + 1))).symm) ?_
          refine ri_i hzi ?_
          refine lv_aload_n hx hb d_Law_law_543 rfl (lv_at hl 2 rfl) ?_
          refine lv_iload hx hb d_Law_law_544 (lv_at hl 1 rfl) ?_
          refine lv_iconst (v := iI 2) hx hb d_Law_law_546 rfl ?_
          refine ri_iadd hx hb d_Law_law_547 ?_
          refine ri_i (show ((i : Int)) + 2 = ((i + 2 : Nat) : Int) from by omega) ?_
          refine va_sld hx hb hXs hbl hbA hS (ix_in (i := i + 2) (by omega) (by omega)) d_Law_law_548 ?_
          rw [ix_cl (i := i + 2) (by omega)]
          have g2 := i32_b (xs (i + 2))
          refine ri_v (congrArg Value.int (iI_of (xs (i + 2))).symm) ?_
          refine ri_i2l hx hb d_Law_law_549 ?_
          refine lv_bipush (v := iI 32) hx hb d_Law_law_550 (by decide) ?_
          refine lv_lshl hx hb d_Law_law_552 rfl ?_
          refine lv_aload_n hx hb d_Law_law_553 rfl (lv_at hl 2 rfl) ?_
          refine lv_iload hx hb d_Law_law_554 (lv_at hl 1 rfl) ?_
          refine lv_iconst (v := iI 3) hx hb d_Law_law_556 rfl ?_
          refine ri_iadd hx hb d_Law_law_557 ?_
          refine ri_i (show ((i : Int)) + 3 = ((i + 3 : Nat) : Int) from by omega) ?_
          refine va_sld hx hb hXs hbl hbA hS (ix_in (i := i + 3) (by omega) (by omega)) d_Law_law_558 ?_
          rw [ix_cl (i := i + 3) (by omega)]
          have g3 := i32_b (xs (i + 3))
          refine ri_v (congrArg Value.int (iI_of (xs (i + 3))).symm) ?_
          refine ri_i2l hx hb d_Law_law_559 ?_
          refine lv_ldc2 (v := lL 4294967295) hx hb hown (hk _ kc_Law_70 _) d_Law_law_560 ?_
          refine lv_land hx hb d_Law_law_563 ?_
          refine lv_lor hx hb d_Law_law_564 ?_
          refine ri_v (y := .long (lL (tm xs i))) (congrArg Value.long (lL_of _).symm) ?_
          refine lv_aload_n hx hb d_Law_law_565 rfl (lv_at hl 2 rfl) ?_
          refine lv_iload hx hb d_Law_law_566 (lv_at hl 1 rfl) ?_
          refine lv_iconst (v := iI 4) hx hb d_Law_law_568 rfl ?_
          refine ri_iadd hx hb d_Law_law_569 ?_
          refine ri_i (show ((i : Int)) + 4 = ((i + 4 : Nat) : Int) from by omega) ?_
          refine va_sld hx hb hXs hbl hbA hS (ix_in (i := i + 4) (by omega) (by omega)) d_Law_law_570 ?_
          rw [ix_cl (i := i + 4) (by omega)]
          have g4 := i32_b (xs (i + 4))
          refine ri_v (congrArg Value.int (iI_of (xs (i + 4))).symm) ?_
          refine ri_if_eq (tgt := 578) hx hb d_Law_law_571 (by decide) (fun h571 => ?_) (fun h571 => ?_)
          · exfalso; omega
          · refine lv_iconst (v := iI 1) hx hb d_Law_law_574 rfl ?_
            refine lv_goto (tgt := 579) hx hb d_Law_law_575 (by decide) ?_
            refine m_callV (rest := []) (q0 := 0) hx hb (hml.trans hl.1.symm) hown hk hK k_Law_82 (ct_Ref_universal_n l D tys (ad 7) (ad 8) (ad 9) (ad 10) (ad 11) (ad 12) (ad 13) (ad 14) (ad 15) fa nn bp yr mn dy i2 (cl 1) (cl 2) (cl 3) (cl 5) (cl 6) off sv cN eR gR zi (eF zi) (gF zi) fF (tm xs i) true hI hJ hG hJJ hGG gz gc (hLI.2.2.1 zi gz) hs (by omega) (by omega) (by omega) (by omega) (by omega) (by omega) gp1 gp2) hP hD hS [31, 33, 34, 35, 44, 53, 36 + zi, 45 + zi, 55] (by rcases z8 gz with rfl | rfl | rfl | rfl | rfl | rfl | rfl | rfl <;> rfl) (by rcases z8 gz with rfl | rfl | rfl | rfl | rfl | rfl | rfl | rfl <;> rfl) rfl rfl rfl rfl rfl ⟨rfl, rfl⟩ ⟨by decide, by decide, by show cells + 1 + 0 ≤ 601024; omega, by show slots + 6 + 0 ≤ 7293034; omega⟩ (Nat.le_of_ble_eq_true rfl) d_Law_law_579 (fun H locs hP hD hS => ?_)
            have hP : va_P D vwCl (LW ad cl aZ bZ eZ eR gR bp nn i1 bk f doff dsv dm dn off sv B E 2 yr mn dy i2 cN eF gF rr (rFnd (rP1 (off zi) (sv zi) (cN zi) (eF zi) (gF zi) (tm xs i)) (rP2 (off zi) (sv zi) (cN zi) (eF zi) (gF zi) (tm xs i)) (rfA (off zi) (sv zi) (tm xs i)) (rfB (off zi) (tm xs i)) fF) oF bp nn f off sv) H := by rcases z8 gz with rfl | rfl | rfl | rfl | rfl | rfl | rfl | rfl <;> exact hP
            have hD : va_D (fun q => s.heap.size ≤ q) (LW ad cl aZ bZ eZ eR gR bp nn i1 bk f doff dsv dm dn off sv B E 2 yr mn dy i2 cN eF gF rr (rFnd (rP1 (off zi) (sv zi) (cN zi) (eF zi) (gF zi) (tm xs i)) (rP2 (off zi) (sv zi) (cN zi) (eF zi) (gF zi) (tm xs i)) (rfA (off zi) (sv zi) (tm xs i)) (rfB (off zi) (tm xs i)) fF) oF bp nn f off sv) := by rcases z8 gz with rfl | rfl | rfl | rfl | rfl | rfl | rfl | rfl <;> exact hD
            refine lv_lstore (lv' := [(6, .long (lL 0)), (5, .int (iI 2)), (4, .int (iI ((i : Int)))), (0, .ref b), (1, .ref (ad 0)), (2, .ref (ad 7)), (3, .ref (ad 16))]) hx hb d_Law_law_582 hl (by decide) rfl (fun ls hl => ?_)
            refine lv_aload_n hx hb d_Law_law_584 rfl (lv_at hl 5 rfl) ?_
            refine p_callV (rest := []) (q0 := 0) hx hb (hml.trans hl.1.symm) hown hk hK k_Law_58 (ct_Ref_thrown l D tys (ad 7) (ad 8) (ad 9) (ad 10) (ad 11) (ad 12) (ad 13) (ad 14) (ad 15) 2 nn bp yr mn dy i2 ) (w_subP (is := [31]) hP rfl) (w_subD (is := [31]) hD rfl rfl) rfl rfl rfl rfl ⟨rfl, rfl⟩ ⟨by decide, by decide, by show cells + 1 + 0 ≤ 601024; omega, by show slots + 6 + 0 ≤ 7293034; omega⟩ (Nat.le_of_ble_eq_true rfl) d_Law_law_585 ?_
            refine lv_iload hx hb d_Law_law_588 (lv_at hl 1 rfl) ?_
            refine ri_icmp_eq (tgt := 595) hx hb d_Law_law_590 (by decide) (fun h590 => ?_) (fun h590 => ?_)
            · refine lv_iload hx hb d_Law_law_595 (lv_at hl 1 rfl) ?_
              refine ri_if_ne (tgt := 611) hx hb d_Law_law_597 (by decide) (fun h597 => ?_) (fun h597 => ?_)
              · refine lv_goto (tgt := 866) hx hb d_Law_law_611 (by decide) ?_
                refine W.widen (k := cells + 2) (n := slots + 12) (by omega) (by omega) ?_
                exact kk _ _ _ _ _ _ _ _ _ _ _ _ _ 2 _ _ _ _ _ _ _ _ (rFnd (rP1 (off zi) (sv zi) (cN zi) (eF zi) (gF zi) (tm xs i)) (rP2 (off zi) (sv zi) (cN zi) (eF zi) (gF zi) (tm xs i)) (rfA (off zi) (sv zi) (tm xs i)) (rfB (off zi) (tm xs i)) fF) _ H locs ls hLI hP hD hS (lv_sub hl [2, 3, 4, 5, 6] rfl)
              · exfalso; omega
            · exfalso; exact h590 rfl
      · skip
        have gpR := bI_or (fun q => gqC (hm.trans q))
        refine lv_aload_n hx hb d_Law_law_487 rfl (lv_at hl 2 rfl) ?_
        refine lv_aload_n hx hb d_Law_law_488 rfl (lv_at hl 1 rfl) ?_
        refine lv_iload hx hb d_Law_law_489 (lv_at hl 0 rfl) ?_
        refine lv_iconst (v := iI 1) hx hb d_Law_law_491 rfl ?_
        refine ri_iadd hx hb d_Law_law_492 ?_
        refine ri_i (show ((i : Int)) + 1 = ((i + 1 : Nat) : Int) from by omega) ?_
        refine va_sld hx hb hXs hbl hbA hS (ix_in (i := i + 1) (by omega) (by omega)) d_Law_law_493 ?_
        rw [ix_cl (i := i + 1) (by omega)]
        have g1 := i32_b (xs (i + 1))
        refine ri_v (congrArg Value.int (iI_of (xs (i + 1))).symm) ?_
        refine ri_i hzi ?_
        refine lv_aload_n hx hb d_Law_law_494 rfl (lv_at hl 1 rfl) ?_
        refine lv_iload hx hb d_Law_law_495 (lv_at hl 0 rfl) ?_
        refine lv_iconst (v := iI 2) hx hb d_Law_law_497 rfl ?_
        refine ri_iadd hx hb d_Law_law_498 ?_
        refine ri_i (show ((i : Int)) + 2 = ((i + 2 : Nat) : Int) from by omega) ?_
        refine va_sld hx hb hXs hbl hbA hS (ix_in (i := i + 2) (by omega) (by omega)) d_Law_law_499 ?_
        rw [ix_cl (i := i + 2) (by omega)]
        have g2 := i32_b (xs (i + 2))
        refine ri_v (congrArg Value.int (iI_of (xs (i + 2))).symm) ?_
        refine ri_i2l hx hb d_Law_law_500 ?_
        refine lv_bipush (v := iI 32) hx hb d_Law_law_501 (by decide) ?_
        refine lv_lshl hx hb d_Law_law_503 rfl ?_
        refine lv_aload_n hx hb d_Law_law_504 rfl (lv_at hl 1 rfl) ?_
        refine lv_iload hx hb d_Law_law_505 (lv_at hl 0 rfl) ?_
        refine lv_iconst (v := iI 3) hx hb d_Law_law_507 rfl ?_
        refine ri_iadd hx hb d_Law_law_508 ?_
        refine ri_i (show ((i : Int)) + 3 = ((i + 3 : Nat) : Int) from by omega) ?_
        refine va_sld hx hb hXs hbl hbA hS (ix_in (i := i + 3) (by omega) (by omega)) d_Law_law_509 ?_
        rw [ix_cl (i := i + 3) (by omega)]
        have g3 := i32_b (xs (i + 3))
        refine ri_v (congrArg Value.int (iI_of (xs (i + 3))).symm) ?_
        refine ri_i2l hx hb d_Law_law_510 ?_
        refine lv_ldc2 (v := lL 4294967295) hx hb hown (hk _ kc_Law_70 _) d_Law_law_511 ?_
        refine lv_land hx hb d_Law_law_514 ?_
        refine lv_lor hx hb d_Law_law_515 ?_
        refine ri_v (y := .long (lL (tm xs i))) (congrArg Value.long (lL_of _).symm) ?_
        refine lv_aload_n hx hb d_Law_law_516 rfl (lv_at hl 1 rfl) ?_
        refine lv_iload hx hb d_Law_law_517 (lv_at hl 0 rfl) ?_
        refine lv_iconst (v := iI 4) hx hb d_Law_law_519 rfl ?_
        refine ri_iadd hx hb d_Law_law_520 ?_
        refine ri_i (show ((i : Int)) + 4 = ((i + 4 : Nat) : Int) from by omega) ?_
        refine va_sld hx hb hXs hbl hbA hS (ix_in (i := i + 4) (by omega) (by omega)) d_Law_law_521 ?_
        rw [ix_cl (i := i + 4) (by omega)]
        have g4 := i32_b (xs (i + 4))
        refine ri_v (congrArg Value.int (iI_of (xs (i + 4))).symm) ?_
        refine ri_if_eq (tgt := 529) hx hb d_Law_law_522 (by decide) (fun h522 => ?_) (fun h522 => ?_)
        · exfalso; omega
        · refine lv_iconst (v := iI 1) hx hb d_Law_law_525 rfl ?_
          refine lv_goto (tgt := 530) hx hb d_Law_law_526 (by decide) ?_
          refine lv_aload_n hx hb d_Law_law_530 rfl (lv_at hl 4 rfl) ?_
          refine t_call (t_runS (rest := []) hx hb (hml.trans hl.1.symm) hown hk hK k_Law_79 (ct_Law_universal l D tys aS hoff (ad 0) (ad 1) (ad 3) (ad 6) bp (cl 4) aZ zi (bZ zi) (eZ zi) (off zi) (sv zi) ((B zi).1) ((B zi).2.1) ((B zi).2.2.1) ((B zi).2.2.2) ((E zi).1) ((E zi).2.1) ((E zi).2.2.1) ((E zi).2.2.2) (tm xs i) true (ad 16) (cl 2) oF hJ htz gz (by omega) (by omega) (by omega) (by omega) gb ge (by omega) (by omega) gqC) (w_subP (is := [0, 6, 7 + 3 * zi, 8 + 3 * zi, 9 + 3 * zi, 56]) hP (by rcases z8 gz with rfl | rfl | rfl | rfl | rfl | rfl | rfl | rfl <;> rfl)) ((hD.sub [0, 6, 7 + 3 * zi, 8 + 3 * zi, 9 + 3 * zi, 56] (by rcases z8 gz with rfl | rfl | rfl | rfl | rfl | rfl | rfl | rfl <;> rfl) (by rcases z8 gz with rfl | rfl | rfl | rfl | rfl | rfl | rfl | rfl <;> rfl)).weaken (fun _ q _ h => hAS q.1 h)) (hZ.kept (hS.2.1 aS hZ.2.2 (fun h => hAS aS h rfl))) hN rfl rfl ⟨by decide, by decide, by show cells + 0 ≤ 601024; omega, by show slots + 0 ≤ 7293034; omega⟩ (Nat.le_of_ble_eq_true rfl) d_Law_law_531) hP hD hS [0, 6, 7 + 3 * zi, 8 + 3 * zi, 9 + 3 * zi, 56] (by rcases z8 gz with rfl | rfl | rfl | rfl | rfl | rfl | rfl | rfl <;> rfl) (fun w1 H locs hw hP hD hS => ?_)
          subst hw
          have hP : va_P D vwCl (LW ad cl aZ bZ eZ eR gR bp nn i1 bk f doff dsv dm dn off sv B E fa yr mn dy i2 cN eF gF rr fF (vp_updL oF 0 (lL (aUni (off zi) (sv zi) (((B zi).1), ((B zi).2.1), ((B zi).2.2.1), ((B zi).2.2.2)) (((E zi).1), ((E zi).2.1), ((E zi).2.2.1), ((E zi).2.2.2)) (tm xs i) true))) bp nn f off sv) H := by rcases z8 gz with rfl | rfl | rfl | rfl | rfl | rfl | rfl | rfl <;> exact hP
          have hD : va_D (fun q => s.heap.size ≤ q) (LW ad cl aZ bZ eZ eR gR bp nn i1 bk f doff dsv dm dn off sv B E fa yr mn dy i2 cN eF gF rr fF (vp_updL oF 0 (lL (aUni (off zi) (sv zi) (((B zi).1), ((B zi).2.1), ((B zi).2.2.1), ((B zi).2.2.2)) (((E zi).1), ((E zi).2.1), ((E zi).2.2.1), ((E zi).2.2.2)) (tm xs i) true))) bp nn f off sv) := by rcases z8 gz with rfl | rfl | rfl | rfl | rfl | rfl | rfl | rfl <;> exact hD
          refine lv_istore (lv' := [(5, .int (iI 0)), (4, .int (iI ((i : Int)))), (0, .ref b), (1, .ref (ad 0)), (2, .ref (ad 7)), (3, .ref (ad 16))]) hx hb d_Law_law_534 hl (by decide) rfl (fun ls hl => ?_)
          refine lv_aload_n hx hb d_Law_law_536 rfl (lv_at hl 4 rfl) ?_
          refine lv_aload_n hx hb d_Law_law_537 rfl (lv_at hl 2 rfl) ?_
          refine lv_iload hx hb d_Law_law_538 (lv_at hl 1 rfl) ?_
          refine lv_iconst (v := iI 1) hx hb d_Law_law_540 rfl ?_
          refine ri_iadd hx hb d_Law_law_541 ?_
          refine ri_i (show ((i : Int)) + 1 = ((i + 1 : Nat) : Int) from by omega) ?_
          refine va_sld hx hb hXs hbl hbA hS (ix_in (i := i + 1) (by omega) (by omega)) d_Law_law_542 ?_
          rw [ix_cl (i := i + 1) (by omega)]
          have g1 := i32_b (xs (i + 1))
          refine ri_v (congrArg Value.int (iI_of (xs (i + 1))).symm) ?_
          refine ri_i hzi ?_
          refine lv_aload_n hx hb d_Law_law_543 rfl (lv_at hl 2 rfl) ?_
          refine lv_iload hx hb d_Law_law_544 (lv_at hl 1 rfl) ?_
          refine lv_iconst (v := iI 2) hx hb d_Law_law_546 rfl ?_
          refine ri_iadd hx hb d_Law_law_547 ?_
          refine ri_i (show ((i : Int)) + 2 = ((i + 2 : Nat) : Int) from by omega) ?_
          refine va_sld hx hb hXs hbl hbA hS (ix_in (i := i + 2) (by omega) (by omega)) d_Law_law_548 ?_
          rw [ix_cl (i := i + 2) (by omega)]
          have g2 := i32_b (xs (i + 2))
          refine ri_v (congrArg Value.int (iI_of (xs (i + 2))).symm) ?_
          refine ri_i2l hx hb d_Law_law_549 ?_
          refine lv_bipush (v := iI 32) hx hb d_Law_law_550 (by decide) ?_
          refine lv_lshl hx hb d_Law_law_552 rfl ?_
          refine lv_aload_n hx hb d_Law_law_553 rfl (lv_at hl 2 rfl) ?_
          refine lv_iload hx hb d_Law_law_554 (lv_at hl 1 rfl) ?_
          refine lv_iconst (v := iI 3) hx hb d_Law_law_556 rfl ?_
          refine ri_iadd hx hb d_Law_law_557 ?_
          refine ri_i (show ((i : Int)) + 3 = ((i + 3 : Nat) : Int) from by omega) ?_
          refine va_sld hx hb hXs hbl hbA hS (ix_in (i := i + 3) (by omega) (by omega)) d_Law_law_558 ?_
          rw [ix_cl (i := i + 3) (by omega)]
          have g3 := i32_b (xs (i + 3))
          refine ri_v (congrArg Value.int (iI_of (xs (i + 3))).symm) ?_
          refine ri_i2l hx hb d_Law_law_559 ?_
          refine lv_ldc2 (v := lL 4294967295) hx hb hown (hk _ kc_Law_70 _) d_Law_law_560 ?_
          refine lv_land hx hb d_Law_law_563 ?_
          refine lv_lor hx hb d_Law_law_564 ?_
          refine ri_v (y := .long (lL (tm xs i))) (congrArg Value.long (lL_of _).symm) ?_
          refine lv_aload_n hx hb d_Law_law_565 rfl (lv_at hl 2 rfl) ?_
          refine lv_iload hx hb d_Law_law_566 (lv_at hl 1 rfl) ?_
          refine lv_iconst (v := iI 4) hx hb d_Law_law_568 rfl ?_
          refine ri_iadd hx hb d_Law_law_569 ?_
          refine ri_i (show ((i : Int)) + 4 = ((i + 4 : Nat) : Int) from by omega) ?_
          refine va_sld hx hb hXs hbl hbA hS (ix_in (i := i + 4) (by omega) (by omega)) d_Law_law_570 ?_
          rw [ix_cl (i := i + 4) (by omega)]
          have g4 := i32_b (xs (i + 4))
          refine ri_v (congrArg Value.int (iI_of (xs (i + 4))).symm) ?_
          refine ri_if_eq (tgt := 578) hx hb d_Law_law_571 (by decide) (fun h571 => ?_) (fun h571 => ?_)
          · exfalso; omega
          · refine lv_iconst (v := iI 1) hx hb d_Law_law_574 rfl ?_
            refine lv_goto (tgt := 579) hx hb d_Law_law_575 (by decide) ?_
            refine m_callV (rest := []) (q0 := 0) hx hb (hml.trans hl.1.symm) hown hk hK k_Law_82 (ct_Ref_universal l D tys (ad 7) (ad 8) (ad 9) (ad 10) (ad 11) (ad 12) (ad 13) (ad 14) (ad 15) fa nn bp yr mn dy i2 (cl 1) (cl 2) (cl 3) (cl 5) (cl 6) off sv cN eR gR zi (eF zi) (gF zi) fF (tm xs i) true hI hJ hG hJJ hGG gz gc (hLI.2.2.1 zi gz) hs (by omega) (by omega) (by omega) (by omega) (by omega) (by omega) gpR) hP hD hS [31, 33, 34, 35, 44, 53, 36 + zi, 45 + zi, 55] (by rcases z8 gz with rfl | rfl | rfl | rfl | rfl | rfl | rfl | rfl <;> rfl) (by rcases z8 gz with rfl | rfl | rfl | rfl | rfl | rfl | rfl | rfl <;> rfl) rfl rfl rfl rfl rfl ⟨rfl, rfl⟩ ⟨by decide, by decide, by show cells + 0 ≤ 601024; omega, by show slots + 0 ≤ 7293034; omega⟩ (Nat.le_of_ble_eq_true rfl) d_Law_law_579 (fun H locs hP hD hS => ?_)
            have hP : va_P D vwCl (LW ad cl aZ bZ eZ eR gR bp nn i1 bk f doff dsv dm dn off sv B E 0 yr mn dy i2 cN eF gF rr (rFnd (rP1 (off zi) (sv zi) (cN zi) (eF zi) (gF zi) (tm xs i)) (rP2 (off zi) (sv zi) (cN zi) (eF zi) (gF zi) (tm xs i)) (rfA (off zi) (sv zi) (tm xs i)) (rfB (off zi) (tm xs i)) fF) (vp_updL oF 0 (lL (aUni (off zi) (sv zi) (((B zi).1), ((B zi).2.1), ((B zi).2.2.1), ((B zi).2.2.2)) (((E zi).1), ((E zi).2.1), ((E zi).2.2.1), ((E zi).2.2.2)) (tm xs i) true))) bp nn f off sv) H := by rcases z8 gz with rfl | rfl | rfl | rfl | rfl | rfl | rfl | rfl <;> exact hP
            have hD : va_D (fun q => s.heap.size ≤ q) (LW ad cl aZ bZ eZ eR gR bp nn i1 bk f doff dsv dm dn off sv B E 0 yr mn dy i2 cN eF gF rr (rFnd (rP1 (off zi) (sv zi) (cN zi) (eF zi) (gF zi) (tm xs i)) (rP2 (off zi) (sv zi) (cN zi) (eF zi) (gF zi) (tm xs i)) (rfA (off zi) (sv zi) (tm xs i)) (rfB (off zi) (tm xs i)) fF) (vp_updL oF 0 (lL (aUni (off zi) (sv zi) (((B zi).1), ((B zi).2.1), ((B zi).2.2.1), ((B zi).2.2.2)) (((E zi).1), ((E zi).2.1), ((E zi).2.2.1), ((E zi).2.2.2)) (tm xs i) true))) bp nn f off sv) := by rcases z8 gz with rfl | rfl | rfl | rfl | rfl | rfl | rfl | rfl <;> exact hD
            refine lv_lstore (lv' := [(6, .long (lL (rUni (rP1 (off zi) (sv zi) (cN zi) (eF zi) (gF zi) (tm xs i)) (rP2 (off zi) (sv zi) (cN zi) (eF zi) (gF zi) (tm xs i)) (rfA (off zi) (sv zi) (tm xs i)) (rfB (off zi) (tm xs i)) true))), (5, .int (iI 0)), (4, .int (iI ((i : Int)))), (0, .ref b), (1, .ref (ad 0)), (2, .ref (ad 7)), (3, .ref (ad 16))]) hx hb d_Law_law_582 hl (by decide) rfl (fun ls hl => ?_)
            refine lv_aload_n hx hb d_Law_law_584 rfl (lv_at hl 5 rfl) ?_
            refine p_callV (rest := []) (q0 := 0) hx hb (hml.trans hl.1.symm) hown hk hK k_Law_58 (ct_Ref_thrown l D tys (ad 7) (ad 8) (ad 9) (ad 10) (ad 11) (ad 12) (ad 13) (ad 14) (ad 15) 0 nn bp yr mn dy i2 ) (w_subP (is := [31]) hP rfl) (w_subD (is := [31]) hD rfl rfl) rfl rfl rfl rfl ⟨rfl, rfl⟩ ⟨by decide, by decide, by show cells + 0 ≤ 601024; omega, by show slots + 0 ≤ 7293034; omega⟩ (Nat.le_of_ble_eq_true rfl) d_Law_law_585 ?_
            refine lv_iload hx hb d_Law_law_588 (lv_at hl 1 rfl) ?_
            refine ri_icmp_eq (tgt := 595) hx hb d_Law_law_590 (by decide) (fun h590 => ?_) (fun h590 => ?_)
            · refine lv_iload hx hb d_Law_law_595 (lv_at hl 1 rfl) ?_
              refine ri_if_ne (tgt := 611) hx hb d_Law_law_597 (by decide) (fun h597 => ?_) (fun h597 => ?_)
              · exfalso; exact h597 rfl
              · refine lv_aload_n hx hb d_Law_law_600 rfl (lv_at hl 6 rfl) ?_
                refine lv_iconst (v := iI 0) hx hb d_Law_law_601 rfl ?_
                refine ri_i (show (0 : Int) = ((0 : Nat) : Int) from rfl) ?_
                refine g_lald (i := 0) hx hb hK hP 56 2 rfl hJ d_Law_law_602 ?_ (by decide) (by decide)
                refine ri_v (y := .long (lL (aUni (off zi) (sv zi) (((B zi).1), ((B zi).2.1), ((B zi).2.2.1), ((B zi).2.2.2)) (((E zi).1), ((E zi).2.1), ((E zi).2.2.1), ((E zi).2.2.2)) (tm xs i) true))) rfl ?_
                refine lv_lload hx hb d_Law_law_603 (lv_at hl 0 rfl) ?_
                refine ri_lcmp_eq (tgt := 611) hx hb d_Law_law_605 d_Law_law_606 (by decide) (fun h605 => ?_) (fun h605 => ?_)
                · refine lv_goto (tgt := 866) hx hb d_Law_law_611 (by decide) ?_
                  refine W.widen (k := cells + 2) (n := slots + 12) (by omega) (by omega) ?_
                  exact kk _ _ _ _ _ _ _ _ _ _ _ _ _ 0 _ _ _ _ _ _ _ _ (rFnd (rP1 (off zi) (sv zi) (cN zi) (eF zi) (gF zi) (tm xs i)) (rP2 (off zi) (sv zi) (cN zi) (eF zi) (gF zi) (tm xs i)) (rfA (off zi) (sv zi) (tm xs i)) (rfB (off zi) (tm xs i)) fF) (vp_updL oF 0 (lL (aUni (off zi) (sv zi) (((B zi).1), ((B zi).2.1), ((B zi).2.2.1), ((B zi).2.2.2)) (((E zi).1), ((E zi).2.1), ((E zi).2.2.1), ((E zi).2.2.2)) (tm xs i) true))) H locs ls hLI hP hD hS (lv_sub hl [2, 3, 4, 5, 6] rfl)
                · exfalso; exact h605 hAns
            · exfalso; exact h590 rfl
    · skip
      refine lv_aload_n hx hb d_Law_law_487 rfl (lv_at hl 2 rfl) ?_
      refine lv_aload_n hx hb d_Law_law_488 rfl (lv_at hl 1 rfl) ?_
      refine lv_iload hx hb d_Law_law_489 (lv_at hl 0 rfl) ?_
      refine lv_iconst (v := iI 1) hx hb d_Law_law_491 rfl ?_
      refine ri_iadd hx hb d_Law_law_492 ?_
      refine ri_i (show ((i : Int)) + 1 = ((i + 1 : Nat) : Int) from by omega) ?_
      refine va_sld hx hb hXs hbl hbA hS (ix_in (i := i + 1) (by omega) (by omega)) d_Law_law_493 ?_
      rw [ix_cl (i := i + 1) (by omega)]
      have g1 := i32_b (xs (i + 1))
      refine ri_v (congrArg Value.int (iI_of (xs (i + 1))).symm) ?_
      refine lv_aload_n hx hb d_Law_law_494 rfl (lv_at hl 1 rfl) ?_
      refine lv_iload hx hb d_Law_law_495 (lv_at hl 0 rfl) ?_
      refine lv_iconst (v := iI 2) hx hb d_Law_law_497 rfl ?_
      refine ri_iadd hx hb d_Law_law_498 ?_
      refine ri_i (show ((i : Int)) + 2 = ((i + 2 : Nat) : Int) from by omega) ?_
      refine va_sld hx hb hXs hbl hbA hS (ix_in (i := i + 2) (by omega) (by omega)) d_Law_law_499 ?_
      rw [ix_cl (i := i + 2) (by omega)]
      have g2 := i32_b (xs (i + 2))
      refine ri_v (congrArg Value.int (iI_of (xs (i + 2))).symm) ?_
      refine ri_i2l hx hb d_Law_law_500 ?_
      refine lv_bipush (v := iI 32) hx hb d_Law_law_501 (by decide) ?_
      refine lv_lshl hx hb d_Law_law_503 rfl ?_
      refine lv_aload_n hx hb d_Law_law_504 rfl (lv_at hl 1 rfl) ?_
      refine lv_iload hx hb d_Law_law_505 (lv_at hl 0 rfl) ?_
      refine lv_iconst (v := iI 3) hx hb d_Law_law_507 rfl ?_
      refine ri_iadd hx hb d_Law_law_508 ?_
      refine ri_i (show ((i : Int)) + 3 = ((i + 3 : Nat) : Int) from by omega) ?_
      refine va_sld hx hb hXs hbl hbA hS (ix_in (i := i + 3) (by omega) (by omega)) d_Law_law_509 ?_
      rw [ix_cl (i := i + 3) (by omega)]
      have g3 := i32_b (xs (i + 3))
      refine ri_v (congrArg Value.int (iI_of (xs (i + 3))).symm) ?_
      refine ri_i2l hx hb d_Law_law_510 ?_
      refine lv_ldc2 (v := lL 4294967295) hx hb hown (hk _ kc_Law_70 _) d_Law_law_511 ?_
      refine lv_land hx hb d_Law_law_514 ?_
      refine lv_lor hx hb d_Law_law_515 ?_
      refine ri_v (y := .long (lL (tm xs i))) (congrArg Value.long (lL_of _).symm) ?_
      refine lv_aload_n hx hb d_Law_law_516 rfl (lv_at hl 1 rfl) ?_
      refine lv_iload hx hb d_Law_law_517 (lv_at hl 0 rfl) ?_
      refine lv_iconst (v := iI 4) hx hb d_Law_law_519 rfl ?_
      refine ri_iadd hx hb d_Law_law_520 ?_
      refine ri_i (show ((i : Int)) + 4 = ((i + 4 : Nat) : Int) from by omega) ?_
      refine va_sld hx hb hXs hbl hbA hS (ix_in (i := i + 4) (by omega) (by omega)) d_Law_law_521 ?_
      rw [ix_cl (i := i + 4) (by omega)]
      have g4 := i32_b (xs (i + 4))
      refine ri_v (congrArg Value.int (iI_of (xs (i + 4))).symm) ?_
      refine ri_if_eq (tgt := 529) hx hb d_Law_law_522 (by decide) (fun h522 => ?_) (fun h522 => ?_)
      · exfalso; omega
      · refine lv_iconst (v := iI 1) hx hb d_Law_law_525 rfl ?_
        refine lv_goto (tgt := 530) hx hb d_Law_law_526 (by decide) ?_
        refine lv_aload_n hx hb d_Law_law_530 rfl (lv_at hl 4 rfl) ?_
        refine t_call (t_runS (rest := []) hx hb (hml.trans hl.1.symm) hown hk hK k_Law_79 (ct_Law_universal_x l D tys aS hoff (ad 0) (ad 1) (ad 3) (ad 6) bp (cl 4) aZ ((xs (i + 1)).toInt) (tm xs i) true (ad 16) htz (by omega) (by omega) (by omega) (by omega) (by omega)) (w_subP (is := [0, 6]) hP rfl) ((hD.sub [0, 6] rfl rfl).weaken (fun _ q _ h => hAS q.1 h)) (hZ.kept (hS.2.1 aS hZ.2.2 (fun h => hAS aS h rfl))) hN rfl rfl ⟨by decide, by decide, by show cells + 1 ≤ 601024; omega, by show slots + 6 ≤ 7293034; omega⟩ (Nat.le_of_ble_eq_true rfl) d_Law_law_531) hP hD hS [0, 6] rfl (fun w1 H locs hw hP hD hS => ?_)
        subst hw
        have hP : va_P D vwCl (LW ad cl aZ bZ eZ eR gR bp nn i1 bk f doff dsv dm dn off sv B E fa yr mn dy i2 cN eF gF rr fF oF bp nn f off sv) H := hP
        have hD : va_D (fun q => s.heap.size ≤ q) (LW ad cl aZ bZ eZ eR gR bp nn i1 bk f doff dsv dm dn off sv B E fa yr mn dy i2 cN eF gF rr fF oF bp nn f off sv) := hD
        refine lv_istore (lv' := [(5, .int (iI 1)), (4, .int (iI ((i : Int)))), (0, .ref b), (1, .ref (ad 0)), (2, .ref (ad 7)), (3, .ref (ad 16))]) hx hb d_Law_law_534 hl (by decide) rfl (fun ls hl => ?_)
        refine lv_aload_n hx hb d_Law_law_536 rfl (lv_at hl 4 rfl) ?_
        refine lv_aload_n hx hb d_Law_law_537 rfl (lv_at hl 2 rfl) ?_
        refine lv_iload hx hb d_Law_law_538 (lv_at hl 1 rfl) ?_
        refine lv_iconst (v := iI 1) hx hb d_Law_law_540 rfl ?_
        refine ri_iadd hx hb d_Law_law_541 ?_
        refine ri_i (show ((i : Int)) + 1 = ((i + 1 : Nat) : Int) from by omega) ?_
        refine va_sld hx hb hXs hbl hbA hS (ix_in (i := i + 1) (by omega) (by omega)) d_Law_law_542 ?_
        rw [ix_cl (i := i + 1) (by omega)]
        have g1 := i32_b (xs (i + 1))
        refine ri_v (congrArg Value.int (iI_of (xs (i + 1))).symm) ?_
        refine lv_aload_n hx hb d_Law_law_543 rfl (lv_at hl 2 rfl) ?_
        refine lv_iload hx hb d_Law_law_544 (lv_at hl 1 rfl) ?_
        refine lv_iconst (v := iI 2) hx hb d_Law_law_546 rfl ?_
        refine ri_iadd hx hb d_Law_law_547 ?_
        refine ri_i (show ((i : Int)) + 2 = ((i + 2 : Nat) : Int) from by omega) ?_
        refine va_sld hx hb hXs hbl hbA hS (ix_in (i := i + 2) (by omega) (by omega)) d_Law_law_548 ?_
        rw [ix_cl (i := i + 2) (by omega)]
        have g2 := i32_b (xs (i + 2))
        refine ri_v (congrArg Value.int (iI_of (xs (i + 2))).symm) ?_
        refine ri_i2l hx hb d_Law_law_549 ?_
        refine lv_bipush (v := iI 32) hx hb d_Law_law_550 (by decide) ?_
        refine lv_lshl hx hb d_Law_law_552 rfl ?_
        refine lv_aload_n hx hb d_Law_law_553 rfl (lv_at hl 2 rfl) ?_
        refine lv_iload hx hb d_Law_law_554 (lv_at hl 1 rfl) ?_
        refine lv_iconst (v := iI 3) hx hb d_Law_law_556 rfl ?_
        refine ri_iadd hx hb d_Law_law_557 ?_
        refine ri_i (show ((i : Int)) + 3 = ((i + 3 : Nat) : Int) from by omega) ?_
        refine va_sld hx hb hXs hbl hbA hS (ix_in (i := i + 3) (by omega) (by omega)) d_Law_law_558 ?_
        rw [ix_cl (i := i + 3) (by omega)]
        have g3 := i32_b (xs (i + 3))
        refine ri_v (congrArg Value.int (iI_of (xs (i + 3))).symm) ?_
        refine ri_i2l hx hb d_Law_law_559 ?_
        refine lv_ldc2 (v := lL 4294967295) hx hb hown (hk _ kc_Law_70 _) d_Law_law_560 ?_
        refine lv_land hx hb d_Law_law_563 ?_
        refine lv_lor hx hb d_Law_law_564 ?_
        refine ri_v (y := .long (lL (tm xs i))) (congrArg Value.long (lL_of _).symm) ?_
        refine lv_aload_n hx hb d_Law_law_565 rfl (lv_at hl 2 rfl) ?_
        refine lv_iload hx hb d_Law_law_566 (lv_at hl 1 rfl) ?_
        refine lv_iconst (v := iI 4) hx hb d_Law_law_568 rfl ?_
        refine ri_iadd hx hb d_Law_law_569 ?_
        refine ri_i (show ((i : Int)) + 4 = ((i + 4 : Nat) : Int) from by omega) ?_
        refine va_sld hx hb hXs hbl hbA hS (ix_in (i := i + 4) (by omega) (by omega)) d_Law_law_570 ?_
        rw [ix_cl (i := i + 4) (by omega)]
        have g4 := i32_b (xs (i + 4))
        refine ri_v (congrArg Value.int (iI_of (xs (i + 4))).symm) ?_
        refine ri_if_eq (tgt := 578) hx hb d_Law_law_571 (by decide) (fun h571 => ?_) (fun h571 => ?_)
        · exfalso; omega
        · refine lv_iconst (v := iI 1) hx hb d_Law_law_574 rfl ?_
          refine lv_goto (tgt := 579) hx hb d_Law_law_575 (by decide) ?_
          refine m_callV (rest := []) (q0 := 0) hx hb (hml.trans hl.1.symm) hown hk hK k_Law_82 (ct_Ref_universal_b l D tys (ad 7) (ad 8) (ad 9) (ad 10) (ad 11) (ad 12) (ad 13) (ad 14) (ad 15) fa nn bp yr mn dy i2 ((xs (i + 1)).toInt) (tm xs i) true (by omega) (by omega) (by omega) (by omega) (by omega)) hP hD hS [31] rfl rfl rfl rfl rfl rfl rfl ⟨rfl, rfl⟩ ⟨by decide, by decide, by show cells + 1 + 0 ≤ 601024; omega, by show slots + 6 + 0 ≤ 7293034; omega⟩ (Nat.le_of_ble_eq_true rfl) d_Law_law_579 (fun H locs hP hD hS => ?_)
          have hP : va_P D vwCl (LW ad cl aZ bZ eZ eR gR bp nn i1 bk f doff dsv dm dn off sv B E 1 yr mn dy i2 cN eF gF rr fF oF bp nn f off sv) H := hP
          have hD : va_D (fun q => s.heap.size ≤ q) (LW ad cl aZ bZ eZ eR gR bp nn i1 bk f doff dsv dm dn off sv B E 1 yr mn dy i2 cN eF gF rr fF oF bp nn f off sv) := hD
          refine lv_lstore (lv' := [(6, .long (lL 0)), (5, .int (iI 1)), (4, .int (iI ((i : Int)))), (0, .ref b), (1, .ref (ad 0)), (2, .ref (ad 7)), (3, .ref (ad 16))]) hx hb d_Law_law_582 hl (by decide) rfl (fun ls hl => ?_)
          refine lv_aload_n hx hb d_Law_law_584 rfl (lv_at hl 5 rfl) ?_
          refine p_callV (rest := []) (q0 := 0) hx hb (hml.trans hl.1.symm) hown hk hK k_Law_58 (ct_Ref_thrown l D tys (ad 7) (ad 8) (ad 9) (ad 10) (ad 11) (ad 12) (ad 13) (ad 14) (ad 15) 1 nn bp yr mn dy i2 ) (w_subP (is := [31]) hP rfl) (w_subD (is := [31]) hD rfl rfl) rfl rfl rfl rfl ⟨rfl, rfl⟩ ⟨by decide, by decide, by show cells + 1 + 0 ≤ 601024; omega, by show slots + 6 + 0 ≤ 7293034; omega⟩ (Nat.le_of_ble_eq_true rfl) d_Law_law_585 ?_
          refine lv_iload hx hb d_Law_law_588 (lv_at hl 1 rfl) ?_
          refine ri_icmp_eq (tgt := 595) hx hb d_Law_law_590 (by decide) (fun h590 => ?_) (fun h590 => ?_)
          · refine lv_iload hx hb d_Law_law_595 (lv_at hl 1 rfl) ?_
            refine ri_if_ne (tgt := 611) hx hb d_Law_law_597 (by decide) (fun h597 => ?_) (fun h597 => ?_)
            · refine lv_goto (tgt := 866) hx hb d_Law_law_611 (by decide) ?_
              refine W.widen (k := cells + 2) (n := slots + 12) (by omega) (by omega) ?_
              exact kk _ _ _ _ _ _ _ _ _ _ _ _ _ 1 _ _ _ _ _ _ _ _ _ _ H locs ls hLI hP hD hS (lv_sub hl [2, 3, 4, 5, 6] rfl)
            · exfalso; omega
          · exfalso; exact h590 rfl
