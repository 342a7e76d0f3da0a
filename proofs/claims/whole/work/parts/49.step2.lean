/-! The law's rounds, further. By program (wip/whole/m_step.py). -/
set_option maxHeartbeats 4000000 in
set_option maxRecDepth 100000 in
theorem st_field {p : Program} {l : Launch} {e : Env} {s : State} {m : MethodId} {below : List Frame} {meth : Method} {c : Code} {b L : Nat} {xs : Nat → Int32} {D : va_G} {tys : List (ClassId × FieldType)} {aS : Nat} {ad : Nat → Nat} {cl : Nat → ClassId} {aZ : Nat → Nat} {bZ : Nat → Nat} {eZ : Nat → Nat} {eR : Nat → Nat} {gR : Nat → Nat} {bp : Int} {nn : Nat} {i1 : Nat} {bk : Bool} {f : Nat → Int32} {doff : Int} {dsv : Int} {dm : RU} {dn : RU} {off : Nat → Int} {sv : Nat → Int} {B : Nat → RU} {E : Nat → RU} {fa : Int} {yr : Int} {mn : Int} {dy : Int} {i2 : Nat} {cN : Nat → Nat} {eF : Nat → Nat → Int} {gF : Nat → Nat → Bool} {rr : Nat → Int32} {fF : Nat → Int64} {oF : Nat → Int64} {i cells slots : Nat} {H : Heap} {locs : List Loc} {ls : Array Slot} {Q : State → Prop} (C0 : LC p l s m meth c b L xs D tys cl aS) (hLI : LI bp nn off sv B E cN eF gF) (hi : i + 6 ≤ L) (hcl : cells ≤ 600000) (hsl : slots ≤ 7000000) (hP : va_P D vwCl (LW ad cl aZ bZ eZ eR gR bp nn i1 bk f doff dsv dm dn off sv B E fa yr mn dy i2 cN eF gF rr fF oF bp nn f off sv) H) (hD : va_D (fun q => s.heap.size ≤ q) (LW ad cl aZ bZ eZ eR gR bp nn i1 bk f doff dsv dm dn off sv B E fa yr mn dy i2 cN eF gF rr fF oF bp nn f off sv)) (hS : va_S (fun q => s.heap.size ≤ q) s.heap H locs) (hl : lv_has ls 8 [(4, .int (iI (i : Int))), (0, .ref b), (1, .ref (ad 0)), (2, .ref (ad 7)), (3, .ref (ad 16))]) (kk : LK p l e s m below meth c b D ad cl aZ bZ eZ eR gR i (cells + 2) (slots + 12) Q) : W p l e room_1 s m #[.ref b] below meth c H locs cells slots Q (F0 m 741 ls []) := by
  obtain ⟨hx, hb, hr, hml, hown, hlk, hk, hK, hZ, hN, hXs, hbl, hL, hoff, hty, hI, hJ, hG, htz, hJJ, hGG⟩ := C0
  have hAS : ∀ q, s.heap.size ≤ q → q ≠ aS := fun q h => by have := hZ.2.2; omega
  have hbA : ¬ s.heap.size ≤ b := by omega
  have gbp := hLI.2.2.2
  have gt := tm_b xs i
  have g4 := i32_b (xs (i + 4))
  by_cases hz : (0 ≤ (xs (i + 1)).toInt ∧ (xs (i + 1)).toInt < 8) ∧ (0 ≤ tm xs i ∧ tm xs i ≤ 10413791999999) ∧ 0 ≤ (xs (i + 4)).toInt ∧ (xs (i + 4)).toInt ≤ 8
  · obtain ⟨⟨z1, z2⟩, ⟨gt1, gt2⟩, gw1, gw2⟩ := hz
    obtain ⟨zi, hzi⟩ : ∃ zi : Nat, (xs (i + 1)).toInt = (zi : Int) := ⟨((xs (i + 1)).toInt).toNat, by omega⟩
    have gz : zi < 8 := by omega
    obtain ⟨go1, go2, gs1, gs2, gc, hs, gb, ge⟩ := LI_z hLI gz
    have gr := hLI.2.1 zi gz
    have hAns := rel_fld (w := (xs (i + 4)).toInt) gr gt1 gt2 gw1 gw2
    have gA := aFld_bd (b := ((B zi).1, (B zi).2.1, (B zi).2.2.1, (B zi).2.2.2)) (e := ((E zi).1, (E zi).2.1, (E zi).2.2.1, (E zi).2.2.2)) (w := (xs (i + 4)).toInt) go1 go2 gs1 gs2 gt1 gt2
    have gA2 := aFld_bd (b := B zi) (e := E zi) (w := (xs (i + 4)).toInt) go1 go2 gs1 gs2 gt1 gt2
    rw [hAns] at gA2
    refine lv_aload_n hx hb d_Law_law_741 rfl (lv_at hl 2 rfl) ?_
    refine lv_aload_n hx hb d_Law_law_742 rfl (lv_at hl 1 rfl) ?_
    refine lv_iload hx hb d_Law_law_743 (lv_at hl 0 rfl) ?_
    refine lv_iconst (v := iI 1) hx hb d_Law_law_745 rfl ?_
    refine ri_iadd hx hb d_Law_law_746 ?_
    refine ri_i (show ((i : Int)) + 1 = ((i + 1 : Nat) : Int) from by omega) ?_
    refine va_sld hx hb hXs hbl hbA hS (ix_in (i := i + 1) (by omega) (by omega)) d_Law_law_747 ?_
    rw [ix_cl (i := i + 1) (by omega)]
    have g1 := i32_b (xs (i + 1))
    refine ri_v (congrArg Value.int (iI_of (xs (i + 1))).symm) ?_
    refine ri_i hzi ?_
    refine lv_aload_n hx hb d_Law_law_748 rfl (lv_at hl 1 rfl) ?_
    refine lv_iload hx hb d_Law_law_749 (lv_at hl 0 rfl) ?_
    refine lv_iconst (v := iI 2) hx hb d_Law_law_751 rfl ?_
    refine ri_iadd hx hb d_Law_law_752 ?_
    refine ri_i (show ((i : Int)) + 2 = ((i + 2 : Nat) : Int) from by omega) ?_
    refine va_sld hx hb hXs hbl hbA hS (ix_in (i := i + 2) (by omega) (by omega)) d_Law_law_753 ?_
    rw [ix_cl (i := i + 2) (by omega)]
    have g2 := i32_b (xs (i + 2))
    refine ri_v (congrArg Value.int (iI_of (xs (i + 2))).symm) ?_
    refine ri_i2l hx hb d_Law_law_754 ?_
    refine lv_bipush (v := iI 32) hx hb d_Law_law_755 (by decide) ?_
    refine lv_lshl hx hb d_Law_law_757 rfl ?_
    refine lv_aload_n hx hb d_Law_law_758 rfl (lv_at hl 1 rfl) ?_
    refine lv_iload hx hb d_Law_law_759 (lv_at hl 0 rfl) ?_
    refine lv_iconst (v := iI 3) hx hb d_Law_law_761 rfl ?_
    refine ri_iadd hx hb d_Law_law_762 ?_
    refine ri_i (show ((i : Int)) + 3 = ((i + 3 : Nat) : Int) from by omega) ?_
    refine va_sld hx hb hXs hbl hbA hS (ix_in (i := i + 3) (by omega) (by omega)) d_Law_law_763 ?_
    rw [ix_cl (i := i + 3) (by omega)]
    have g3 := i32_b (xs (i + 3))
    refine ri_v (congrArg Value.int (iI_of (xs (i + 3))).symm) ?_
    refine ri_i2l hx hb d_Law_law_764 ?_
    refine lv_ldc2 (v := lL 4294967295) hx hb hown (hk _ kc_Law_70 _) d_Law_law_765 ?_
    refine lv_land hx hb d_Law_law_768 ?_
    refine lv_lor hx hb d_Law_law_769 ?_
    refine ri_v (y := .long (lL (tm xs i))) (congrArg Value.long (lL_of _).symm) ?_
    refine lv_aload_n hx hb d_Law_law_770 rfl (lv_at hl 1 rfl) ?_
    refine lv_iload hx hb d_Law_law_771 (lv_at hl 0 rfl) ?_
    refine lv_iconst (v := iI 4) hx hb d_Law_law_773 rfl ?_
    refine ri_iadd hx hb d_Law_law_774 ?_
    refine ri_i (show ((i : Int)) + 4 = ((i + 4 : Nat) : Int) from by omega) ?_
    refine va_sld hx hb hXs hbl hbA hS (ix_in (i := i + 4) (by omega) (by omega)) d_Law_law_775 ?_
    rw [ix_cl (i := i + 4) (by omega)]
    have g4 := i32_b (xs (i + 4))
    refine ri_v (congrArg Value.int (iI_of (xs (i + 4))).symm) ?_
    refine lv_aload_n hx hb d_Law_law_776 rfl (lv_at hl 4 rfl) ?_
    refine t_call (t_runS (rest := []) hx hb (hml.trans hl.1.symm) hown hk hK k_Law_86 (ct_Law_field l D tys aS hoff (ad 0) (ad 1) (ad 3) (ad 6) bp (cl 4) aZ zi (bZ zi) (eZ zi) (off zi) (sv zi) ((B zi).1) ((B zi).2.1) ((B zi).2.2.1) ((B zi).2.2.2) ((E zi).1) ((E zi).2.1) ((E zi).2.2.1) ((E zi).2.2.2) (tm xs i) ((xs (i + 4)).toInt) (ad 16) (cl 2) oF hJ htz gz (by omega) (by omega) (by omega) (by omega) gb ge (by omega) (by omega) (by omega) (by omega)) (w_subP (is := [0, 6, 7 + 3 * zi, 8 + 3 * zi, 9 + 3 * zi, 56]) hP (by rcases z8 gz with rfl | rfl | rfl | rfl | rfl | rfl | rfl | rfl <;> rfl)) ((hD.sub [0, 6, 7 + 3 * zi, 8 + 3 * zi, 9 + 3 * zi, 56] (by rcases z8 gz with rfl | rfl | rfl | rfl | rfl | rfl | rfl | rfl <;> rfl) (by rcases z8 gz with rfl | rfl | rfl | rfl | rfl | rfl | rfl | rfl <;> rfl)).weaken (fun _ q _ h => hAS q.1 h)) (hZ.kept (hS.2.1 aS hZ.2.2 (fun h => hAS aS h rfl))) hN rfl rfl ⟨by decide, by decide, by show cells + 0 ≤ 601024; omega, by show slots + 0 ≤ 7293034; omega⟩ (Nat.le_of_ble_eq_true rfl) d_Law_law_777) hP hD hS [0, 6, 7 + 3 * zi, 8 + 3 * zi, 9 + 3 * zi, 56] (by rcases z8 gz with rfl | rfl | rfl | rfl | rfl | rfl | rfl | rfl <;> rfl) (fun w1 H locs hw hP hD hS => ?_)
    subst hw
    have hP : va_P D vwCl (LW ad cl aZ bZ eZ eR gR bp nn i1 bk f doff dsv dm dn off sv B E fa yr mn dy i2 cN eF gF rr fF (vp_updL oF 0 (lL (aFld (off zi) (sv zi) (((B zi).1), ((B zi).2.1), ((B zi).2.2.1), ((B zi).2.2.2)) (((E zi).1), ((E zi).2.1), ((E zi).2.2.1), ((E zi).2.2.2)) (tm xs i) ((xs (i + 4)).toInt)))) bp nn f off sv) H := by rcases z8 gz with rfl | rfl | rfl | rfl | rfl | rfl | rfl | rfl <;> exact hP
    have hD : va_D (fun q => s.heap.size ≤ q) (LW ad cl aZ bZ eZ eR gR bp nn i1 bk f doff dsv dm dn off sv B E fa yr mn dy i2 cN eF gF rr fF (vp_updL oF 0 (lL (aFld (off zi) (sv zi) (((B zi).1), ((B zi).2.1), ((B zi).2.2.1), ((B zi).2.2.2)) (((E zi).1), ((E zi).2.1), ((E zi).2.2.1), ((E zi).2.2.2)) (tm xs i) ((xs (i + 4)).toInt)))) bp nn f off sv) := by rcases z8 gz with rfl | rfl | rfl | rfl | rfl | rfl | rfl | rfl <;> exact hD
    refine lv_istore (lv' := [(5, .int (iI 0)), (4, .int (iI ((i : Int)))), (0, .ref b), (1, .ref (ad 0)), (2, .ref (ad 7)), (3, .ref (ad 16))]) hx hb d_Law_law_780 hl (by decide) rfl (fun ls hl => ?_)
    refine lv_aload_n hx hb d_Law_law_782 rfl (lv_at hl 4 rfl) ?_
    refine lv_aload_n hx hb d_Law_law_783 rfl (lv_at hl 2 rfl) ?_
    refine lv_iload hx hb d_Law_law_784 (lv_at hl 1 rfl) ?_
    refine lv_iconst (v := iI 1) hx hb d_Law_law_786 rfl ?_
    refine ri_iadd hx hb d_Law_law_787 ?_
    refine ri_i (show ((i : Int)) + 1 = ((i + 1 : Nat) : Int) from by omega) ?_
    refine va_sld hx hb hXs hbl hbA hS (ix_in (i := i + 1) (by omega) (by omega)) d_Law_law_788 ?_
    rw [ix_cl (i := i + 1) (by omega)]
    have g1 := i32_b (xs (i + 1))
    refine ri_v (congrArg Value.int (iI_of (xs (i + 1))).symm) ?_
    refine ri_i hzi ?_
    refine lv_aload_n hx hb d_Law_law_789 rfl (lv_at hl 2 rfl) ?_
    refine lv_iload hx hb d_Law_law_790 (lv_at hl 1 rfl) ?_
    refine lv_iconst (v := iI 2) hx hb d_Law_law_792 rfl ?_
    refine ri_iadd hx hb d_Law_law_793 ?_
    refine ri_i (show ((i : Int)) + 2 = ((i + 2 : Nat) : Int) from by omega) ?_
    refine va_sld hx hb hXs hbl hbA hS (ix_in (i := i + 2) (by omega) (by omega)) d_Law_law_794 ?_
    rw [ix_cl (i := i + 2) (by omega)]
    have g2 := i32_b (xs (i + 2))
    refine ri_v (congrArg Value.int (iI_of (xs (i + 2))).symm) ?_
    refine ri_i2l hx hb d_Law_law_795 ?_
    refine lv_bipush (v := iI 32) hx hb d_Law_law_796 (by decide) ?_
    refine lv_lshl hx hb d_Law_law_798 rfl ?_
    refine lv_aload_n hx hb d_Law_law_799 rfl (lv_at hl 2 rfl) ?_
    refine lv_iload hx hb d_Law_law_800 (lv_at hl 1 rfl) ?_
    refine lv_iconst (v := iI 3) hx hb d_Law_law_802 rfl ?_
    refine ri_iadd hx hb d_Law_law_803 ?_
    refine ri_i (show ((i : Int)) + 3 = ((i + 3 : Nat) : Int) from by omega) ?_
    refine va_sld hx hb hXs hbl hbA hS (ix_in (i := i + 3) (by omega) (by omega)) d_Law_law_804 ?_
    rw [ix_cl (i := i + 3) (by omega)]
    have g3 := i32_b (xs (i + 3))
    refine ri_v (congrArg Value.int (iI_of (xs (i + 3))).symm) ?_
    refine ri_i2l hx hb d_Law_law_805 ?_
    refine lv_ldc2 (v := lL 4294967295) hx hb hown (hk _ kc_Law_70 _) d_Law_law_806 ?_
    refine lv_land hx hb d_Law_law_809 ?_
    refine lv_lor hx hb d_Law_law_810 ?_
    refine ri_v (y := .long (lL (tm xs i))) (congrArg Value.long (lL_of _).symm) ?_
    refine lv_aload_n hx hb d_Law_law_811 rfl (lv_at hl 2 rfl) ?_
    refine lv_iload hx hb d_Law_law_812 (lv_at hl 1 rfl) ?_
    refine lv_iconst (v := iI 4) hx hb d_Law_law_814 rfl ?_
    refine ri_iadd hx hb d_Law_law_815 ?_
    refine ri_i (show ((i : Int)) + 4 = ((i + 4 : Nat) : Int) from by omega) ?_
    refine va_sld hx hb hXs hbl hbA hS (ix_in (i := i + 4) (by omega) (by omega)) d_Law_law_816 ?_
    rw [ix_cl (i := i + 4) (by omega)]
    have g4 := i32_b (xs (i + 4))
    refine ri_v (congrArg Value.int (iI_of (xs (i + 4))).symm) ?_
    refine m_callV (rest := []) (q0 := 0) hx hb (hml.trans hl.1.symm) hown hk hK k_Law_89 (ct_Ref_field l D tys (ad 7) (ad 8) (ad 9) (ad 10) (ad 11) (ad 12) (ad 13) (ad 14) (ad 15) fa nn bp yr mn dy i2 (cl 1) (cl 2) (cl 3) (cl 5) (cl 6) off sv cN eR gR zi (eF zi) (gF zi) (tm xs i) ((xs (i + 4)).toInt) hI hJ hG hJJ hGG gz gc (hLI.2.2.1 zi gz) hs (by omega) (by omega) (by omega) (by omega) (by omega) (by omega) (by omega) (by omega)) hP hD hS [31, 33, 34, 35, 44, 53, 36 + zi, 45 + zi] (by rcases z8 gz with rfl | rfl | rfl | rfl | rfl | rfl | rfl | rfl <;> rfl) (by rcases z8 gz with rfl | rfl | rfl | rfl | rfl | rfl | rfl | rfl <;> rfl) rfl rfl rfl rfl rfl ⟨rfl, rfl⟩ ⟨by decide, by decide, by show cells + 0 ≤ 601024; omega, by show slots + 0 ≤ 7293034; omega⟩ (Nat.le_of_ble_eq_true rfl) d_Law_law_817 (fun H locs hP hD hS => ?_)
    have hP : va_P D vwCl (LW ad cl aZ bZ eZ eR gR bp nn i1 bk f doff dsv dm dn off sv B E 0 (cY (rX (tm xs i) (rMin (off zi) (sv zi) (evK (eF zi) (tm xs i) (cN zi)) (gF zi)) / 86400)) (cMo (cY (rX (tm xs i) (rMin (off zi) (sv zi) (evK (eF zi) (tm xs i) (cN zi)) (gF zi)) / 86400)) (rX (tm xs i) (rMin (off zi) (sv zi) (evK (eF zi) (tm xs i) (cN zi)) (gF zi)) / 86400)) (rX (tm xs i) (rMin (off zi) (sv zi) (evK (eF zi) (tm xs i) (cN zi)) (gF zi)) / 86400 - cFD (cY (rX (tm xs i) (rMin (off zi) (sv zi) (evK (eF zi) (tm xs i) (cN zi)) (gF zi)) / 86400)) (cMo (cY (rX (tm xs i) (rMin (off zi) (sv zi) (evK (eF zi) (tm xs i) (cN zi)) (gF zi)) / 86400)) (rX (tm xs i) (rMin (off zi) (sv zi) (evK (eF zi) (tm xs i) (cN zi)) (gF zi)) / 86400)) + 1) i2 cN eF gF rr fF (vp_updL oF 0 (lL (aFld (off zi) (sv zi) (((B zi).1), ((B zi).2.1), ((B zi).2.2.1), ((B zi).2.2.2)) (((E zi).1), ((E zi).2.1), ((E zi).2.2.1), ((E zi).2.2.2)) (tm xs i) ((xs (i + 4)).toInt)))) bp nn f off sv) H := by rcases z8 gz with rfl | rfl | rfl | rfl | rfl | rfl | rfl | rfl <;> exact hP
    have hD : va_D (fun q => s.heap.size ≤ q) (LW ad cl aZ bZ eZ eR gR bp nn i1 bk f doff dsv dm dn off sv B E 0 (cY (rX (tm xs i) (rMin (off zi) (sv zi) (evK (eF zi) (tm xs i) (cN zi)) (gF zi)) / 86400)) (cMo (cY (rX (tm xs i) (rMin (off zi) (sv zi) (evK (eF zi) (tm xs i) (cN zi)) (gF zi)) / 86400)) (rX (tm xs i) (rMin (off zi) (sv zi) (evK (eF zi) (tm xs i) (cN zi)) (gF zi)) / 86400)) (rX (tm xs i) (rMin (off zi) (sv zi) (evK (eF zi) (tm xs i) (cN zi)) (gF zi)) / 86400 - cFD (cY (rX (tm xs i) (rMin (off zi) (sv zi) (evK (eF zi) (tm xs i) (cN zi)) (gF zi)) / 86400)) (cMo (cY (rX (tm xs i) (rMin (off zi) (sv zi) (evK (eF zi) (tm xs i) (cN zi)) (gF zi)) / 86400)) (rX (tm xs i) (rMin (off zi) (sv zi) (evK (eF zi) (tm xs i) (cN zi)) (gF zi)) / 86400)) + 1) i2 cN eF gF rr fF (vp_updL oF 0 (lL (aFld (off zi) (sv zi) (((B zi).1), ((B zi).2.1), ((B zi).2.2.1), ((B zi).2.2.2)) (((E zi).1), ((E zi).2.1), ((E zi).2.2.1), ((E zi).2.2.2)) (tm xs i) ((xs (i + 4)).toInt)))) bp nn f off sv) := by rcases z8 gz with rfl | rfl | rfl | rfl | rfl | rfl | rfl | rfl <;> exact hD
    refine lv_istore (lv' := [(6, .int (iI (rFld (off zi) (sv zi) (cN zi) (eF zi) (gF zi) (tm xs i) ((xs (i + 4)).toInt)))), (5, .int (iI 0)), (4, .int (iI ((i : Int)))), (0, .ref b), (1, .ref (ad 0)), (2, .ref (ad 7)), (3, .ref (ad 16))]) hx hb d_Law_law_820 hl (by decide) rfl (fun ls hl => ?_)
    refine lv_aload_n hx hb d_Law_law_822 rfl (lv_at hl 5 rfl) ?_
    refine p_callV (rest := []) (q0 := 0) hx hb (hml.trans hl.1.symm) hown hk hK k_Law_58 (ct_Ref_thrown l D tys (ad 7) (ad 8) (ad 9) (ad 10) (ad 11) (ad 12) (ad 13) (ad 14) (ad 15) 0 nn bp (cY (rX (tm xs i) (rMin (off zi) (sv zi) (evK (eF zi) (tm xs i) (cN zi)) (gF zi)) / 86400)) (cMo (cY (rX (tm xs i) (rMin (off zi) (sv zi) (evK (eF zi) (tm xs i) (cN zi)) (gF zi)) / 86400)) (rX (tm xs i) (rMin (off zi) (sv zi) (evK (eF zi) (tm xs i) (cN zi)) (gF zi)) / 86400)) (rX (tm xs i) (rMin (off zi) (sv zi) (evK (eF zi) (tm xs i) (cN zi)) (gF zi)) / 86400 - cFD (cY (rX (tm xs i) (rMin (off zi) (sv zi) (evK (eF zi) (tm xs i) (cN zi)) (gF zi)) / 86400)) (cMo (cY (rX (tm xs i) (rMin (off zi) (sv zi) (evK (eF zi) (tm xs i) (cN zi)) (gF zi)) / 86400)) (rX (tm xs i) (rMin (off zi) (sv zi) (evK (eF zi) (tm xs i) (cN zi)) (gF zi)) / 86400)) + 1) i2 ) (w_subP (is := [31]) hP rfl) (w_subD (is := [31]) hD rfl rfl) rfl rfl rfl rfl ⟨rfl, rfl⟩ ⟨by decide, by decide, by show cells + 0 ≤ 601024; omega, by show slots + 0 ≤ 7293034; omega⟩ (Nat.le_of_ble_eq_true rfl) d_Law_law_823 ?_
    refine lv_iload hx hb d_Law_law_826 (lv_at hl 1 rfl) ?_
    refine ri_icmp_eq (tgt := 833) hx hb d_Law_law_828 (by decide) (fun h828 => ?_) (fun h828 => ?_)
    · refine lv_iload hx hb d_Law_law_833 (lv_at hl 1 rfl) ?_
      refine ri_if_ne (tgt := 850) hx hb d_Law_law_835 (by decide) (fun h835 => ?_) (fun h835 => ?_)
      · exfalso; exact h835 rfl
      · refine lv_aload_n hx hb d_Law_law_838 rfl (lv_at hl 6 rfl) ?_
        refine lv_iconst (v := iI 0) hx hb d_Law_law_839 rfl ?_
        refine ri_i (show (0 : Int) = ((0 : Nat) : Int) from rfl) ?_
        refine g_lald (i := 0) hx hb hK hP 56 2 rfl hJ d_Law_law_840 ?_ (by decide) (by decide)
        refine ri_v (y := .long (lL (aFld (off zi) (sv zi) (((B zi).1), ((B zi).2.1), ((B zi).2.2.1), ((B zi).2.2.2)) (((E zi).1), ((E zi).2.1), ((E zi).2.2.1), ((E zi).2.2.2)) (tm xs i) ((xs (i + 4)).toInt)))) rfl ?_
        refine lv_iload hx hb d_Law_law_841 (lv_at hl 0 rfl) ?_
        refine ri_i2l hx hb d_Law_law_843 ?_
        refine ri_lcmp_eq (tgt := 850) hx hb d_Law_law_844 d_Law_law_845 (by decide) (fun h844 => ?_) (fun h844 => ?_)
        · refine lv_goto (tgt := 866) hx hb d_Law_law_850 (by decide) ?_
          refine W.widen (k := cells + 2) (n := slots + 12) (by omega) (by omega) ?_
          exact kk _ _ _ _ _ _ _ _ _ _ _ _ _ 0 (cY (rX (tm xs i) (rMin (off zi) (sv zi) (evK (eF zi) (tm xs i) (cN zi)) (gF zi)) / 86400)) (cMo (cY (rX (tm xs i) (rMin (off zi) (sv zi) (evK (eF zi) (tm xs i) (cN zi)) (gF zi)) / 86400)) (rX (tm xs i) (rMin (off zi) (sv zi) (evK (eF zi) (tm xs i) (cN zi)) (gF zi)) / 86400)) (rX (tm xs i) (rMin (off zi) (sv zi) (evK (eF zi) (tm xs i) (cN zi)) (gF zi)) / 86400 - cFD (cY (rX (tm xs i) (rMin (off zi) (sv zi) (evK (eF zi) (tm xs i) (cN zi)) (gF zi)) / 86400)) (cMo (cY (rX (tm xs i) (rMin (off zi) (sv zi) (evK (eF zi) (tm xs i) (cN zi)) (gF zi)) / 86400)) (rX (tm xs i) (rMin (off zi) (sv zi) (evK (eF zi) (tm xs i) (cN zi)) (gF zi)) / 86400)) + 1) _ _ _ _ _ _ (vp_updL oF 0 (lL (aFld (off zi) (sv zi) (((B zi).1), ((B zi).2.1), ((B zi).2.2.1), ((B zi).2.2.2)) (((E zi).1), ((E zi).2.1), ((E zi).2.2.1), ((E zi).2.2.2)) (tm xs i) ((xs (i + 4)).toInt)))) H locs ls hLI hP hD hS (lv_sub hl [2, 3, 4, 5, 6] rfl)
        · exfalso; exact h844 hAns
    · exfalso; exact h828 rfl
  · skip
    refine lv_aload_n hx hb d_Law_law_741 rfl (lv_at hl 2 rfl) ?_
    refine lv_aload_n hx hb d_Law_law_742 rfl (lv_at hl 1 rfl) ?_
    refine lv_iload hx hb d_Law_law_743 (lv_at hl 0 rfl) ?_
    refine lv_iconst (v := iI 1) hx hb d_Law_law_745 rfl ?_
    refine ri_iadd hx hb d_Law_law_746 ?_
    refine ri_i (show ((i : Int)) + 1 = ((i + 1 : Nat) : Int) from by omega) ?_
    refine va_sld hx hb hXs hbl hbA hS (ix_in (i := i + 1) (by omega) (by omega)) d_Law_law_747 ?_
    rw [ix_cl (i := i + 1) (by omega)]
    have g1 := i32_b (xs (i + 1))
    refine ri_v (congrArg Value.int (iI_of (xs (i + 1))).symm) ?_
    refine lv_aload_n hx hb d_Law_law_748 rfl (lv_at hl 1 rfl) ?_
    refine lv_iload hx hb d_Law_law_749 (lv_at hl 0 rfl) ?_
    refine lv_iconst (v := iI 2) hx hb d_Law_law_751 rfl ?_
    refine ri_iadd hx hb d_Law_law_752 ?_
    refine ri_i (show ((i : Int)) + 2 = ((i + 2 : Nat) : Int) from by omega) ?_
    refine va_sld hx hb hXs hbl hbA hS (ix_in (i := i + 2) (by omega) (by omega)) d_Law_law_753 ?_
    rw [ix_cl (i := i + 2) (by omega)]
    have g2 := i32_b (xs (i + 2))
    refine ri_v (congrArg Value.int (iI_of (xs (i + 2))).symm) ?_
    refine ri_i2l hx hb d_Law_law_754 ?_
    refine lv_bipush (v := iI 32) hx hb d_Law_law_755 (by decide) ?_
    refine lv_lshl hx hb d_Law_law_757 rfl ?_
    refine lv_aload_n hx hb d_Law_law_758 rfl (lv_at hl 1 rfl) ?_
    refine lv_iload hx hb d_Law_law_759 (lv_at hl 0 rfl) ?_
    refine lv_iconst (v := iI 3) hx hb d_Law_law_761 rfl ?_
    refine ri_iadd hx hb d_Law_law_762 ?_
    refine ri_i (show ((i : Int)) + 3 = ((i + 3 : Nat) : Int) from by omega) ?_
    refine va_sld hx hb hXs hbl hbA hS (ix_in (i := i + 3) (by omega) (by omega)) d_Law_law_763 ?_
    rw [ix_cl (i := i + 3) (by omega)]
    have g3 := i32_b (xs (i + 3))
    refine ri_v (congrArg Value.int (iI_of (xs (i + 3))).symm) ?_
    refine ri_i2l hx hb d_Law_law_764 ?_
    refine lv_ldc2 (v := lL 4294967295) hx hb hown (hk _ kc_Law_70 _) d_Law_law_765 ?_
    refine lv_land hx hb d_Law_law_768 ?_
    refine lv_lor hx hb d_Law_law_769 ?_
    refine ri_v (y := .long (lL (tm xs i))) (congrArg Value.long (lL_of _).symm) ?_
    refine lv_aload_n hx hb d_Law_law_770 rfl (lv_at hl 1 rfl) ?_
    refine lv_iload hx hb d_Law_law_771 (lv_at hl 0 rfl) ?_
    refine lv_iconst (v := iI 4) hx hb d_Law_law_773 rfl ?_
    refine ri_iadd hx hb d_Law_law_774 ?_
    refine ri_i (show ((i : Int)) + 4 = ((i + 4 : Nat) : Int) from by omega) ?_
    refine va_sld hx hb hXs hbl hbA hS (ix_in (i := i + 4) (by omega) (by omega)) d_Law_law_775 ?_
    rw [ix_cl (i := i + 4) (by omega)]
    have g4 := i32_b (xs (i + 4))
    refine ri_v (congrArg Value.int (iI_of (xs (i + 4))).symm) ?_
    refine lv_aload_n hx hb d_Law_law_776 rfl (lv_at hl 4 rfl) ?_
    refine t_call (t_runS (rest := []) hx hb (hml.trans hl.1.symm) hown hk hK k_Law_86 (ct_Law_field_x l D tys aS hoff (ad 0) (ad 1) (ad 3) (ad 6) bp (cl 4) aZ ((xs (i + 1)).toInt) (tm xs i) ((xs (i + 4)).toInt) (ad 16) htz (by omega) (by omega) (by omega) (by omega) (by omega) (by omega) (by omega)) (w_subP (is := [0, 6]) hP rfl) ((hD.sub [0, 6] rfl rfl).weaken (fun _ q _ h => hAS q.1 h)) (hZ.kept (hS.2.1 aS hZ.2.2 (fun h => hAS aS h rfl))) hN rfl rfl ⟨by decide, by decide, by show cells + 1 ≤ 601024; omega, by show slots + 6 ≤ 7293034; omega⟩ (Nat.le_of_ble_eq_true rfl) d_Law_law_777) hP hD hS [0, 6] rfl (fun w1 H locs hw hP hD hS => ?_)
    subst hw
    have hP : va_P D vwCl (LW ad cl aZ bZ eZ eR gR bp nn i1 bk f doff dsv dm dn off sv B E fa yr mn dy i2 cN eF gF rr fF oF bp nn f off sv) H := hP
    have hD : va_D (fun q => s.heap.size ≤ q) (LW ad cl aZ bZ eZ eR gR bp nn i1 bk f doff dsv dm dn off sv B E fa yr mn dy i2 cN eF gF rr fF oF bp nn f off sv) := hD
    refine lv_istore (lv' := [(5, .int (iI 1)), (4, .int (iI ((i : Int)))), (0, .ref b), (1, .ref (ad 0)), (2, .ref (ad 7)), (3, .ref (ad 16))]) hx hb d_Law_law_780 hl (by decide) rfl (fun ls hl => ?_)
    refine lv_aload_n hx hb d_Law_law_782 rfl (lv_at hl 4 rfl) ?_
    refine lv_aload_n hx hb d_Law_law_783 rfl (lv_at hl 2 rfl) ?_
    refine lv_iload hx hb d_Law_law_784 (lv_at hl 1 rfl) ?_
    refine lv_iconst (v := iI 1) hx hb d_Law_law_786 rfl ?_
    refine ri_iadd hx hb d_Law_law_787 ?_
    refine ri_i (show ((i : Int)) + 1 = ((i + 1 : Nat) : Int) from by omega) ?_
    refine va_sld hx hb hXs hbl hbA hS (ix_in (i := i + 1) (by omega) (by omega)) d_Law_law_788 ?_
    rw [ix_cl (i := i + 1) (by omega)]
    have g1 := i32_b (xs (i + 1))
    refine ri_v (congrArg Value.int (iI_of (xs (i + 1))).symm) ?_
    refine lv_aload_n hx hb d_Law_law_789 rfl (lv_at hl 2 rfl) ?_
    refine lv_iload hx hb d_Law_law_790 (lv_at hl 1 rfl) ?_
    refine lv_iconst (v := iI 2) hx hb d_Law_law_792 rfl ?_
    refine ri_iadd hx hb d_Law_law_793 ?_
    refine ri_i (show ((i : Int)) + 2 = ((i + 2 : Nat) : Int) from by omega) ?_
    refine va_sld hx hb hXs hbl hbA hS (ix_in (i := i + 2) (by omega) (by omega)) d_Law_law_794 ?_
    rw [ix_cl (i := i + 2) (by omega)]
    have g2 := i32_b (xs (i + 2))
    refine ri_v (congrArg Value.int (iI_of (xs (i + 2))).symm) ?_
    refine ri_i2l hx hb d_Law_law_795 ?_
    refine lv_bipush (v := iI 32) hx hb d_Law_law_796 (by decide) ?_
    refine lv_lshl hx hb d_Law_law_798 rfl ?_
    refine lv_aload_n hx hb d_Law_law_799 rfl (lv_at hl 2 rfl) ?_
    refine lv_iload hx hb d_Law_law_800 (lv_at hl 1 rfl) ?_
    refine lv_iconst (v := iI 3) hx hb d_Law_law_802 rfl ?_
    refine ri_iadd hx hb d_Law_law_803 ?_
    refine ri_i (show ((i : Int)) + 3 = ((i + 3 : Nat) : Int) from by omega) ?_
    refine va_sld hx hb hXs hbl hbA hS (ix_in (i := i + 3) (by omega) (by omega)) d_Law_law_804 ?_
    rw [ix_cl (i := i + 3) (by omega)]
    have g3 := i32_b (xs (i + 3))
    refine ri_v (congrArg Value.int (iI_of (xs (i + 3))).symm) ?_
    refine ri_i2l hx hb d_Law_law_805 ?_
    refine lv_ldc2 (v := lL 4294967295) hx hb hown (hk _ kc_Law_70 _) d_Law_law_806 ?_
    refine lv_land hx hb d_Law_law_809 ?_
    refine lv_lor hx hb d_Law_law_810 ?_
    refine ri_v (y := .long (lL (tm xs i))) (congrArg Value.long (lL_of _).symm) ?_
    refine lv_aload_n hx hb d_Law_law_811 rfl (lv_at hl 2 rfl) ?_
    refine lv_iload hx hb d_Law_law_812 (lv_at hl 1 rfl) ?_
    refine lv_iconst (v := iI 4) hx hb d_Law_law_814 rfl ?_
    refine ri_iadd hx hb d_Law_law_815 ?_
    refine ri_i (show ((i : Int)) + 4 = ((i + 4 : Nat) : Int) from by omega) ?_
    refine va_sld hx hb hXs hbl hbA hS (ix_in (i := i + 4) (by omega) (by omega)) d_Law_law_816 ?_
    rw [ix_cl (i := i + 4) (by omega)]
    have g4 := i32_b (xs (i + 4))
    refine ri_v (congrArg Value.int (iI_of (xs (i + 4))).symm) ?_
    refine m_callV (rest := []) (q0 := 0) hx hb (hml.trans hl.1.symm) hown hk hK k_Law_89 (ct_Ref_field_b l D tys (ad 7) (ad 8) (ad 9) (ad 10) (ad 11) (ad 12) (ad 13) (ad 14) (ad 15) fa nn bp yr mn dy i2 ((xs (i + 1)).toInt) (tm xs i) ((xs (i + 4)).toInt) (by omega) (by omega) (by omega) (by omega) (by omega) (by omega) (by omega)) hP hD hS [31] rfl rfl rfl rfl rfl rfl rfl ⟨rfl, rfl⟩ ⟨by decide, by decide, by show cells + 1 + 0 ≤ 601024; omega, by show slots + 6 + 0 ≤ 7293034; omega⟩ (Nat.le_of_ble_eq_true rfl) d_Law_law_817 (fun H locs hP hD hS => ?_)
    have hP : va_P D vwCl (LW ad cl aZ bZ eZ eR gR bp nn i1 bk f doff dsv dm dn off sv B E 1 yr mn dy i2 cN eF gF rr fF oF bp nn f off sv) H := hP
    have hD : va_D (fun q => s.heap.size ≤ q) (LW ad cl aZ bZ eZ eR gR bp nn i1 bk f doff dsv dm dn off sv B E 1 yr mn dy i2 cN eF gF rr fF oF bp nn f off sv) := hD
    refine lv_istore (lv' := [(6, .int (iI 0)), (5, .int (iI 1)), (4, .int (iI ((i : Int)))), (0, .ref b), (1, .ref (ad 0)), (2, .ref (ad 7)), (3, .ref (ad 16))]) hx hb d_Law_law_820 hl (by decide) rfl (fun ls hl => ?_)
    refine lv_aload_n hx hb d_Law_law_822 rfl (lv_at hl 5 rfl) ?_
    refine p_callV (rest := []) (q0 := 0) hx hb (hml.trans hl.1.symm) hown hk hK k_Law_58 (ct_Ref_thrown l D tys (ad 7) (ad 8) (ad 9) (ad 10) (ad 11) (ad 12) (ad 13) (ad 14) (ad 15) 1 nn bp yr mn dy i2 ) (w_subP (is := [31]) hP rfl) (w_subD (is := [31]) hD rfl rfl) rfl rfl rfl rfl ⟨rfl, rfl⟩ ⟨by decide, by decide, by show cells + 1 + 0 ≤ 601024; omega, by show slots + 6 + 0 ≤ 7293034; omega⟩ (Nat.le_of_ble_eq_true rfl) d_Law_law_823 ?_
    refine lv_iload hx hb d_Law_law_826 (lv_at hl 1 rfl) ?_
    refine ri_icmp_eq (tgt := 833) hx hb d_Law_law_828 (by decide) (fun h828 => ?_) (fun h828 => ?_)
    · refine lv_iload hx hb d_Law_law_833 (lv_at hl 1 rfl) ?_
      refine ri_if_ne (tgt := 850) hx hb d_Law_law_835 (by decide) (fun h835 => ?_) (fun h835 => ?_)
      · refine lv_goto (tgt := 866) hx hb d_Law_law_850 (by decide) ?_
        refine W.widen (k := cells + 2) (n := slots + 12) (by omega) (by omega) ?_
        exact kk _ _ _ _ _ _ _ _ _ _ _ _ _ 1 _ _ _ _ _ _ _ _ _ _ H locs ls hLI hP hD hS (lv_sub hl [2, 3, 4, 5, 6] rfl)
      · exfalso; omega
    · exfalso; exact h828 rfl
set_option maxHeartbeats 4000000 in
set_option maxRecDepth 100000 in
theorem st_change {p : Program} {l : Launch} {e : Env} {s : State} {m : MethodId} {below : List Frame} {meth : Method} {c : Code} {b L : Nat} {xs : Nat → Int32} {D : va_G} {tys : List (ClassId × FieldType)} {aS : Nat} {ad : Nat → Nat} {cl : Nat → ClassId} {aZ : Nat → Nat} {bZ : Nat → Nat} {eZ : Nat → Nat} {eR : Nat → Nat} {gR : Nat → Nat} {bp : Int} {nn : Nat} {i1 : Nat} {bk : Bool} {f : Nat → Int32} {doff : Int} {dsv : Int} {dm : RU} {dn : RU} {off : Nat → Int} {sv : Nat → Int} {B : Nat → RU} {E : Nat → RU} {fa : Int} {yr : Int} {mn : Int} {dy : Int} {i2 : Nat} {cN : Nat → Nat} {eF : Nat → Nat → Int} {gF : Nat → Nat → Bool} {rr : Nat → Int32} {fF : Nat → Int64} {oF : Nat → Int64} {i cells slots : Nat} {H : Heap} {locs : List Loc} {ls : Array Slot} {Q : State → Prop} (C0 : LC p l s m meth c b L xs D tys cl aS) (hLI : LI bp nn off sv B E cN eF gF) (hi : i + 6 ≤ L) (hcl : cells ≤ 600000) (hsl : slots ≤ 7000000) (hP : va_P D vwCl (LW ad cl aZ bZ eZ eR gR bp nn i1 bk f doff dsv dm dn off sv B E fa yr mn dy i2 cN eF gF rr fF oF bp nn f off sv) H) (hD : va_D (fun q => s.heap.size ≤ q) (LW ad cl aZ bZ eZ eR gR bp nn i1 bk f doff dsv dm dn off sv B E fa yr mn dy i2 cN eF gF rr fF oF bp nn f off sv)) (hS : va_S (fun q => s.heap.size ≤ q) s.heap H locs) (hl : lv_has ls 8 [(4, .int (iI (i : Int))), (0, .ref b), (1, .ref (ad 0)), (2, .ref (ad 7)), (3, .ref (ad 16))]) (kk : LK p l e s m below meth c b D ad cl aZ bZ eZ eR gR i (cells + 2) (slots + 12) Q) : W p l e room_1 s m #[.ref b] below meth c H locs cells slots Q (F0 m 614 ls []) := by
  obtain ⟨hx, hb, hr, hml, hown, hlk, hk, hK, hZ, hN, hXs, hbl, hL, hoff, hty, hI, hJ, hG, htz, hJJ, hGG⟩ := C0
  have hAS : ∀ q, s.heap.size ≤ q → q ≠ aS := fun q h => by have := hZ.2.2; omega
  have hbA : ¬ s.heap.size ≤ b := by omega
  have gbp := hLI.2.2.2
  have gt := tm_b xs i
  have g4 := i32_b (xs (i + 4))
  by_cases h4 : (xs (i + 4)).toInt = 0
  · skip
    by_cases hz : (0 ≤ (xs (i + 1)).toInt ∧ (xs (i + 1)).toInt < 8) ∧ (0 ≤ tm xs i ∧ tm xs i ≤ 10413791999999)
    · obtain ⟨⟨z1, z2⟩, ⟨gt1, gt2⟩⟩ := hz
      obtain ⟨zi, hzi⟩ : ∃ zi : Nat, (xs (i + 1)).toInt = (zi : Int) := ⟨((xs (i + 1)).toInt).toNat, by omega⟩
      have gz : zi < 8 := by omega
      obtain ⟨go1, go2, gs1, gs2, gc, hs, gb, ge⟩ := LI_z hLI gz
      have gr := hLI.2.1 zi gz
      have hAns := rel_chg gr gt1 gt2 false
      have gA : -1000000000000000 ≤ aChg (off zi) (sv zi) ((B zi).1, (B zi).2.1, (B zi).2.2.1, (B zi).2.2.2) ((E zi).1, (E zi).2.1, (E zi).2.2.1, (E zi).2.2.2) (tm xs i) false ∧ aChg (off zi) (sv zi) ((B zi).1, (B zi).2.1, (B zi).2.2.1, (B zi).2.2.2) ((E zi).1, (E zi).2.1, (E zi).2.2.1, (E zi).2.2.2) (tm xs i) false ≤ 1000000000000000 := aChg_b hLI gz gt1 gt2 false
      have gA2 := gA
      rw [show aChg (off zi) (sv zi) ((B zi).1, (B zi).2.1, (B zi).2.2.1, (B zi).2.2.2) ((E zi).1, (E zi).2.1, (E zi).2.2.1, (E zi).2.2.2) (tm xs i) false = _ from hAns] at gA2
      refine lv_aload_n hx hb d_Law_law_614 rfl (lv_at hl 2 rfl) ?_
      refine lv_aload_n hx hb d_Law_law_615 rfl (lv_at hl 1 rfl) ?_
      refine lv_iload hx hb d_Law_law_616 (lv_at hl 0 rfl) ?_
      refine lv_iconst (v := iI 1) hx hb d_Law_law_618 rfl ?_
      refine ri_iadd hx hb d_Law_law_619 ?_
      refine ri_i (show ((i : Int)) + 1 = ((i + 1 : Nat) : Int) from by omega) ?_
      refine va_sld hx hb hXs hbl hbA hS (ix_in (i := i + 1) (by omega) (by omega)) d_Law_law_620 ?_
      rw [ix_cl (i := i + 1) (by omega)]
      have g1 := i32_b (xs (i + 1))
      refine ri_v (congrArg Value.int (iI_of (xs (i + 1))).symm) ?_
      refine ri_i hzi ?_
      refine lv_aload_n hx hb d_Law_law_621 rfl (lv_at hl 1 rfl) ?_
      refine lv_iload hx hb d_Law_law_622 (lv_at hl 0 rfl) ?_
      refine lv_iconst (v := iI 2) hx hb d_Law_law_624 rfl ?_
      refine ri_iadd hx hb d_Law_law_625 ?_
      refine ri_i (show ((i : Int)) + 2 = ((i + 2 : Nat) : Int) from by omega) ?_
      refine va_sld hx hb hXs hbl hbA hS (ix_in (i := i + 2) (by omega) (by omega)) d_Law_law_626 ?_
      rw [ix_cl (i := i + 2) (by omega)]
      have g2 := i32_b (xs (i + 2))
      refine ri_v (congrArg Value.int (iI_of (xs (i + 2))).symm) ?_
      refine ri_i2l hx hb d_Law_law_627 ?_
      refine lv_bipush (v := iI 32) hx hb d_Law_law_628 (by decide) ?_
      refine lv_lshl hx hb d_Law_law_630 rfl ?_
      refine lv_aload_n hx hb d_Law_law_631 rfl (lv_at hl 1 rfl) ?_
      refine lv_iload hx hb d_Law_law_632 (lv_at hl 0 rfl) ?_
      refine lv_iconst (v := iI 3) hx hb d_Law_law_634 rfl ?_
      refine ri_iadd hx hb d_Law_law_635 ?_
      refine ri_i (show ((i : Int)) + 3 = ((i + 3 : Nat) : Int) from by omega) ?_
      refine va_sld hx hb hXs hbl hbA hS (ix_in (i := i + 3) (by omega) (by omega)) d_Law_law_636 ?_
      rw [ix_cl (i := i + 3) (by omega)]
      have g3 := i32_b (xs (i + 3))
      refine ri_v (congrArg Value.int (iI_of (xs (i + 3))).symm) ?_
      refine ri_i2l hx hb d_Law_law_637 ?_
      refine lv_ldc2 (v := lL 4294967295) hx hb hown (hk _ kc_Law_70 _) d_Law_law_638 ?_
      refine lv_land hx hb d_Law_law_641 ?_
      refine lv_lor hx hb d_Law_law_642 ?_
      refine ri_v (y := .long (lL (tm xs i))) (congrArg Value.long (lL_of _).symm) ?_
      refine lv_aload_n hx hb d_Law_law_643 rfl (lv_at hl 1 rfl) ?_
      refine lv_iload hx hb d_Law_law_644 (lv_at hl 0 rfl) ?_
      refine lv_iconst (v := iI 4) hx hb d_Law_law_646 rfl ?_
      refine ri_iadd hx hb d_Law_law_647 ?_
      refine ri_i (show ((i : Int)) + 4 = ((i + 4 : Nat) : Int) from by omega) ?_
      refine va_sld hx hb hXs hbl hbA hS (ix_in (i := i + 4) (by omega) (by omega)) d_Law_law_648 ?_
      rw [ix_cl (i := i + 4) (by omega)]
      have g4 := i32_b (xs (i + 4))
      refine ri_v (congrArg Value.int (iI_of (xs (i + 4))).symm) ?_
      refine ri_if_eq (tgt := 656) hx hb d_Law_law_649 (by decide) (fun h649 => ?_) (fun h649 => ?_)
      · refine lv_iconst (v := iI 0) hx hb d_Law_law_656 rfl ?_
        refine lv_aload_n hx hb d_Law_law_657 rfl (lv_at hl 4 rfl) ?_
        refine t_call (t_runS (rest := []) hx hb (hml.trans hl.1.symm) hown hk hK k_Law_83 (ct_Law_change l D tys aS hoff (ad 0) (ad 1) (ad 3) (ad 6) bp (cl 4) aZ zi (bZ zi) (eZ zi) (off zi) (sv zi) ((B zi).1) ((B zi).2.1) ((B zi).2.2.1) ((B zi).2.2.2) ((E zi).1) ((E zi).2.1) ((E zi).2.2.1) ((E zi).2.2.2) (tm xs i) false (ad 16) (cl 2) oF hJ htz gz (by omega) (by omega) (by omega) (by omega) gb ge (by omega) (by omega)) (w_subP (is := [0, 6, 7 + 3 * zi, 8 + 3 * zi, 9 + 3 * zi, 56]) hP (by rcases z8 gz with rfl | rfl | rfl | rfl | rfl | rfl | rfl | rfl <;> rfl)) ((hD.sub [0, 6, 7 + 3 * zi, 8 + 3 * zi, 9 + 3 * zi, 56] (by rcases z8 gz with rfl | rfl | rfl | rfl | rfl | rfl | rfl | rfl <;> rfl) (by rcases z8 gz with rfl | rfl | rfl | rfl | rfl | rfl | rfl | rfl <;> rfl)).weaken (fun _ q _ h => hAS q.1 h)) (hZ.kept (hS.2.1 aS hZ.2.2 (fun h => hAS aS h rfl))) hN rfl rfl ⟨by decide, by decide, by show cells + 0 ≤ 601024; omega, by show slots + 0 ≤ 7293034; omega⟩ (Nat.le_of_ble_eq_true rfl) d_Law_law_658) hP hD hS [0, 6, 7 + 3 * zi, 8 + 3 * zi, 9 + 3 * zi, 56] (by rcases z8 gz with rfl | rfl | rfl | rfl | rfl | rfl | rfl | rfl <;> rfl) (fun w1 H locs hw hP hD hS => ?_)
        subst hw
        have hP : va_P D vwCl (LW ad cl aZ bZ eZ eR gR bp nn i1 bk f doff dsv dm dn off sv B E fa yr mn dy i2 cN eF gF rr fF (vp_updL oF 0 (lL (aChg (off zi) (sv zi) (((B zi).1), ((B zi).2.1), ((B zi).2.2.1), ((B zi).2.2.2)) (((E zi).1), ((E zi).2.1), ((E zi).2.2.1), ((E zi).2.2.2)) (tm xs i) false))) bp nn f off sv) H := by rcases z8 gz with rfl | rfl | rfl | rfl | rfl | rfl | rfl | rfl <;> exact hP
        have hD : va_D (fun q => s.heap.size ≤ q) (LW ad cl aZ bZ eZ eR gR bp nn i1 bk f doff dsv dm dn off sv B E fa yr mn dy i2 cN eF gF rr fF (vp_updL oF 0 (lL (aChg (off zi) (sv zi) (((B zi).1), ((B zi).2.1), ((B zi).2.2.1), ((B zi).2.2.2)) (((E zi).1), ((E zi).2.1), ((E zi).2.2.1), ((E zi).2.2.2)) (tm xs i) false))) bp nn f off sv) := by rcases z8 gz with rfl | rfl | rfl | rfl | rfl | rfl | rfl | rfl <;> exact hD
        refine lv_istore (lv' := [(5, .int (iI 0)), (4, .int (iI ((i : Int)))), (0, .ref b), (1, .ref (ad 0)), (2, .ref (ad 7)), (3, .ref (ad 16))]) hx hb d_Law_law_661 hl (by decide) rfl (fun ls hl => ?_)
        refine lv_aload_n hx hb d_Law_law_663 rfl (lv_at hl 4 rfl) ?_
        refine lv_aload_n hx hb d_Law_law_664 rfl (lv_at hl 2 rfl) ?_
        refine lv_iload hx hb d_Law_law_665 (lv_at hl 1 rfl) ?_
        refine lv_iconst (v := iI 1) hx hb d_Law_law_667 rfl ?_
        refine ri_iadd hx hb d_Law_law_668 ?_
        refine ri_i (show ((i : Int)) + 1 = ((i + 1 : Nat) : Int) from by omega) ?_
        refine va_sld hx hb hXs hbl hbA hS (ix_in (i := i + 1) (by omega) (by omega)) d_Law_law_669 ?_
        rw [ix_cl (i := i + 1) (by omega)]
        have g1 := i32_b (xs (i + 1))
        refine ri_v (congrArg Value.int (iI_of (xs (i + 1))).symm) ?_
        refine ri_i hzi ?_
        refine lv_aload_n hx hb d_Law_law_670 rfl (lv_at hl 2 rfl) ?_
        refine lv_iload hx hb d_Law_law_671 (lv_at hl 1 rfl) ?_
        refine lv_iconst (v := iI 2) hx hb d_Law_law_673 rfl ?_
        refine ri_iadd hx hb d_Law_law_674 ?_
        refine ri_i (show ((i : Int)) + 2 = ((i + 2 : Nat) : Int) from by omega) ?_
        refine va_sld hx hb hXs hbl hbA hS (ix_in (i := i + 2) (by omega) (by omega)) d_Law_law_675 ?_
        rw [ix_cl (i := i + 2) (by omega)]
        have g2 := i32_b (xs (i + 2))
        refine ri_v (congrArg Value.int (iI_of (xs (i + 2))).symm) ?_
        refine ri_i2l hx hb d_Law_law_676 ?_
        refine lv_bipush (v := iI 32) hx hb d_Law_law_677 (by decide) ?_
        refine lv_lshl hx hb d_Law_law_679 rfl ?_
        refine lv_aload_n hx hb d_Law_law_680 rfl (lv_at hl 2 rfl) ?_
        refine lv_iload hx hb d_Law_law_681 (lv_at hl 1 rfl) ?_
        refine lv_iconst (v := iI 3) hx hb d_Law_law_683 rfl ?_
        refine ri_iadd hx hb d_Law_law_684 ?_
        refine ri_i (show ((i : Int)) + 3 = ((i + 3 : Nat) : Int) from by omega) ?_
        refine va_sld hx hb hXs hbl hbA hS (ix_in (i := i + 3) (by omega) (by omega)) d_Law_law_685 ?_
        rw [ix_cl (i := i + 3) (by omega)]
        have g3 := i32_b (xs (i + 3))
        refine ri_v (congrArg Value.int (iI_of (xs (i + 3))).symm) ?_
        refine ri_i2l hx hb d_Law_law_686 ?_
        refine lv_ldc2 (v := lL 4294967295) hx hb hown (hk _ kc_Law_70 _) d_Law_law_687 ?_
        refine lv_land hx hb d_Law_law_690 ?_
        refine lv_lor hx hb d_Law_law_691 ?_
        refine ri_v (y := .long (lL (tm xs i))) (congrArg Value.long (lL_of _).symm) ?_
        refine lv_aload_n hx hb d_Law_law_692 rfl (lv_at hl 2 rfl) ?_
        refine lv_iload hx hb d_Law_law_693 (lv_at hl 1 rfl) ?_
        refine lv_iconst (v := iI 4) hx hb d_Law_law_695 rfl ?_
        refine ri_iadd hx hb d_Law_law_696 ?_
        refine ri_i (show ((i : Int)) + 4 = ((i + 4 : Nat) : Int) from by omega) ?_
        refine va_sld hx hb hXs hbl hbA hS (ix_in (i := i + 4) (by omega) (by omega)) d_Law_law_697 ?_
        rw [ix_cl (i := i + 4) (by omega)]
        have g4 := i32_b (xs (i + 4))
        refine ri_v (congrArg Value.int (iI_of (xs (i + 4))).symm) ?_
        refine ri_if_eq (tgt := 705) hx hb d_Law_law_698 (by decide) (fun h698 => ?_) (fun h698 => ?_)
        · refine lv_iconst (v := iI 0) hx hb d_Law_law_705 rfl ?_
          refine m_callV (rest := []) (q0 := 0) hx hb (hml.trans hl.1.symm) hown hk hK k_Law_85 (ct_Ref_change l D tys (ad 7) (ad 8) (ad 9) (ad 10) (ad 11) (ad 12) (ad 13) (ad 14) (ad 15) fa nn bp yr mn dy i2 (cl 1) (cl 2) (cl 3) (cl 5) (cl 6) off sv cN eR gR zi (eF zi) (gF zi) (tm xs i) false hI hJ hG hJJ hGG gz gc (hLI.2.2.1 zi gz) hs (by omega) (by omega) (by omega) (by omega) (by omega) (by omega)) hP hD hS [31, 33, 34, 35, 44, 53, 36 + zi, 45 + zi] (by rcases z8 gz with rfl | rfl | rfl | rfl | rfl | rfl | rfl | rfl <;> rfl) (by rcases z8 gz with rfl | rfl | rfl | rfl | rfl | rfl | rfl | rfl <;> rfl) rfl rfl rfl rfl rfl ⟨rfl, rfl⟩ ⟨by decide, by decide, by show cells + 0 ≤ 601024; omega, by show slots + 0 ≤ 7293034; omega⟩ (Nat.le_of_ble_eq_true rfl) d_Law_law_706 (fun H locs hP hD hS => ?_)
          have hP : va_P D vwCl (LW ad cl aZ bZ eZ eR gR bp nn i1 bk f doff dsv dm dn off sv B E 0 yr mn dy i2 cN eF gF rr fF (vp_updL oF 0 (lL (aChg (off zi) (sv zi) (((B zi).1), ((B zi).2.1), ((B zi).2.2.1), ((B zi).2.2.2)) (((E zi).1), ((E zi).2.1), ((E zi).2.2.1), ((E zi).2.2.2)) (tm xs i) false))) bp nn f off sv) H := by rcases z8 gz with rfl | rfl | rfl | rfl | rfl | rfl | rfl | rfl <;> exact hP
          have hD : va_D (fun q => s.heap.size ≤ q) (LW ad cl aZ bZ eZ eR gR bp nn i1 bk f doff dsv dm dn off sv B E 0 yr mn dy i2 cN eF gF rr fF (vp_updL oF 0 (lL (aChg (off zi) (sv zi) (((B zi).1), ((B zi).2.1), ((B zi).2.2.1), ((B zi).2.2.2)) (((E zi).1), ((E zi).2.1), ((E zi).2.2.1), ((E zi).2.2.2)) (tm xs i) false))) bp nn f off sv) := by rcases z8 gz with rfl | rfl | rfl | rfl | rfl | rfl | rfl | rfl <;> exact hD
          refine lv_lstore (lv' := [(6, .long (lL (if bI false = 0 then (if evK (eF zi) (tm xs i) (cN zi) = cN zi then -1 else (eF zi) (evK (eF zi) (tm xs i) (cN zi))) else (if evK (eF zi) (tm xs i) (cN zi) = 0 ∨ (eF zi) (evK (eF zi) (tm xs i) (cN zi) - 1) < 0 then -1 else (eF zi) (evK (eF zi) (tm xs i) (cN zi) - 1))))), (5, .int (iI 0)), (4, .int (iI ((i : Int)))), (0, .ref b), (1, .ref (ad 0)), (2, .ref (ad 7)), (3, .ref (ad 16))]) hx hb d_Law_law_709 hl (by decide) rfl (fun ls hl => ?_)
          refine lv_aload_n hx hb d_Law_law_711 rfl (lv_at hl 5 rfl) ?_
          refine p_callV (rest := []) (q0 := 0) hx hb (hml.trans hl.1.symm) hown hk hK k_Law_58 (ct_Ref_thrown l D tys (ad 7) (ad 8) (ad 9) (ad 10) (ad 11) (ad 12) (ad 13) (ad 14) (ad 15) 0 nn bp yr mn dy i2 ) (w_subP (is := [31]) hP rfl) (w_subD (is := [31]) hD rfl rfl) rfl rfl rfl rfl ⟨rfl, rfl⟩ ⟨by decide, by decide, by show cells + 0 ≤ 601024; omega, by show slots + 0 ≤ 7293034; omega⟩ (Nat.le_of_ble_eq_true rfl) d_Law_law_712 ?_
          refine lv_iload hx hb d_Law_law_715 (lv_at hl 1 rfl) ?_
          refine ri_icmp_eq (tgt := 722) hx hb d_Law_law_717 (by decide) (fun h717 => ?_) (fun h717 => ?_)
          · refine lv_iload hx hb d_Law_law_722 (lv_at hl 1 rfl) ?_
            refine ri_if_ne (tgt := 738) hx hb d_Law_law_724 (by decide) (fun h724 => ?_) (fun h724 => ?_)
            · exfalso; exact h724 rfl
            · refine lv_aload_n hx hb d_Law_law_727 rfl (lv_at hl 6 rfl) ?_
              refine lv_iconst (v := iI 0) hx hb d_Law_law_728 rfl ?_
              refine ri_i (show (0 : Int) = ((0 : Nat) : Int) from rfl) ?_
              refine g_lald (i := 0) hx hb hK hP 56 2 rfl hJ d_Law_law_729 ?_ (by decide) (by decide)
              refine ri_v (y := .long (lL (aChg (off zi) (sv zi) (((B zi).1), ((B zi).2.1), ((B zi).2.2.1), ((B zi).2.2.2)) (((E zi).1), ((E zi).2.1), ((E zi).2.2.1), ((E zi).2.2.2)) (tm xs i) false))) rfl ?_
              refine lv_lload hx hb d_Law_law_730 (lv_at hl 0 rfl) ?_
              refine ri_lcmp_eq (tgt := 738) hx hb d_Law_law_732 d_Law_law_733 (by decide) (fun h732 => ?_) (fun h732 => ?_)
              · refine lv_goto (tgt := 866) hx hb d_Law_law_738 (by decide) ?_
                refine W.widen (k := cells + 2) (n := slots + 12) (by omega) (by omega) ?_
                exact kk _ _ _ _ _ _ _ _ _ _ _ _ _ 0 _ _ _ _ _ _ _ _ _ (vp_updL oF 0 (lL (aChg (off zi) (sv zi) (((B zi).1), ((B zi).2.1), ((B zi).2.2.1), ((B zi).2.2.2)) (((E zi).1), ((E zi).2.1), ((E zi).2.2.1), ((E zi).2.2.2)) (tm xs i) false))) H locs ls hLI hP hD hS (lv_sub hl [2, 3, 4, 5, 6] rfl)
              · exfalso; exact h732 hAns
          · exfalso; exact h717 rfl
        · exfalso; omega
      · exfalso; omega
    · skip
      refine lv_aload_n hx hb d_Law_law_614 rfl (lv_at hl 2 rfl) ?_
      refine lv_aload_n hx hb d_Law_law_615 rfl (lv_at hl 1 rfl) ?_
      refine lv_iload hx hb d_Law_law_616 (lv_at hl 0 rfl) ?_
      refine lv_iconst (v := iI 1) hx hb d_Law_law_618 rfl ?_
      refine ri_iadd hx hb d_Law_law_619 ?_
      refine ri_i (show ((i : Int)) + 1 = ((i + 1 : Nat) : Int) from by omega) ?_
      refine va_sld hx hb hXs hbl hbA hS (ix_in (i := i + 1) (by omega) (by omega)) d_Law_law_620 ?_
      rw [ix_cl (i := i + 1) (by omega)]
      have g1 := i32_b (xs (i + 1))
      refine ri_v (congrArg Value.int (iI_of (xs (i + 1))).symm) ?_
      refine lv_aload_n hx hb d_Law_law_621 rfl (lv_at hl 1 rfl) ?_
      refine lv_iload hx hb d_Law_law_622 (lv_at hl 0 rfl) ?_
      refine lv_iconst (v := iI 2) hx hb d_Law_law_624 rfl ?_
      refine ri_iadd hx hb d_Law_law_625 ?_
      refine ri_i (show ((i : Int)) + 2 = ((i + 2 : Nat) : Int) from by omega) ?_
      refine va_sld hx hb hXs hbl hbA hS (ix_in (i := i + 2) (by omega) (by omega)) d_Law_law_626 ?_
      rw [ix_cl (i := i + 2) (by omega)]
      have g2 := i32_b (xs (i + 2))
      refine ri_v (congrArg Value.int (iI_of (xs (i + 2))).symm) ?_
      refine ri_i2l hx hb d_Law_law_627 ?_
      refine lv_bipush (v := iI 32) hx hb d_Law_law_628 (by decide) ?_
      refine lv_lshl hx hb d_Law_law_630 rfl ?_
      refine lv_aload_n hx hb d_Law_law_631 rfl (lv_at hl 1 rfl) ?_
      refine lv_iload hx hb d_Law_law_632 (lv_at hl 0 rfl) ?_
      refine lv_iconst (v := iI 3) hx hb d_Law_law_634 rfl ?_
      refine ri_iadd hx hb d_Law_law_635 ?_
      refine ri_i (show ((i : Int)) + 3 = ((i + 3 : Nat) : Int) from by omega) ?_
      refine va_sld hx hb hXs hbl hbA hS (ix_in (i := i + 3) (by omega) (by omega)) d_Law_law_636 ?_
      rw [ix_cl (i := i + 3) (by omega)]
      have g3 := i32_b (xs (i + 3))
      refine ri_v (congrArg Value.int (iI_of (xs (i + 3))).symm) ?_
      refine ri_i2l hx hb d_Law_law_637 ?_
      refine lv_ldc2 (v := lL 4294967295) hx hb hown (hk _ kc_Law_70 _) d_Law_law_638 ?_
      refine lv_land hx hb d_Law_law_641 ?_
      refine lv_lor hx hb d_Law_law_642 ?_
      refine ri_v (y := .long (lL (tm xs i))) (congrArg Value.long (lL_of _).symm) ?_
      refine lv_aload_n hx hb d_Law_law_643 rfl (lv_at hl 1 rfl) ?_
      refine lv_iload hx hb d_Law_law_644 (lv_at hl 0 rfl) ?_
      refine lv_iconst (v := iI 4) hx hb d_Law_law_646 rfl ?_
      refine ri_iadd hx hb d_Law_law_647 ?_
      refine ri_i (show ((i : Int)) + 4 = ((i + 4 : Nat) : Int) from by omega) ?_
      refine va_sld hx hb hXs hbl hbA hS (ix_in (i := i + 4) (by omega) (by omega)) d_Law_law_648 ?_
      rw [ix_cl (i := i + 4) (by omega)]
      have g4 := i32_b (xs (i + 4))
      refine ri_v (congrArg Value.int (iI_of (xs (i + 4))).symm) ?_
      refine ri_if_eq (tgt := 656) hx hb d_Law_law_649 (by decide) (fun h649 => ?_) (fun h649 => ?_)
      · refine lv_iconst (v := iI 0) hx hb d_Law_law_656 rfl ?_
        refine lv_aload_n hx hb d_Law_law_657 rfl (lv_at hl 4 rfl) ?_
        refine t_call (t_runS (rest := []) hx hb (hml.trans hl.1.symm) hown hk hK k_Law_83 (ct_Law_change_x l D tys aS hoff (ad 0) (ad 1) (ad 3) (ad 6) bp (cl 4) aZ ((xs (i + 1)).toInt) (tm xs i) false (ad 16) htz (by omega) (by omega) (by omega) (by omega) (by omega)) (w_subP (is := [0, 6]) hP rfl) ((hD.sub [0, 6] rfl rfl).weaken (fun _ q _ h => hAS q.1 h)) (hZ.kept (hS.2.1 aS hZ.2.2 (fun h => hAS aS h rfl))) hN rfl rfl ⟨by decide, by decide, by show cells + 1 ≤ 601024; omega, by show slots + 6 ≤ 7293034; omega⟩ (Nat.le_of_ble_eq_true rfl) d_Law_law_658) hP hD hS [0, 6] rfl (fun w1 H locs hw hP hD hS => ?_)
        subst hw
        have hP : va_P D vwCl (LW ad cl aZ bZ eZ eR gR bp nn i1 bk f doff dsv dm dn off sv B E fa yr mn dy i2 cN eF gF rr fF oF bp nn f off sv) H := hP
        have hD : va_D (fun q => s.heap.size ≤ q) (LW ad cl aZ bZ eZ eR gR bp nn i1 bk f doff dsv dm dn off sv B E fa yr mn dy i2 cN eF gF rr fF oF bp nn f off sv) := hD
        refine lv_istore (lv' := [(5, .int (iI 1)), (4, .int (iI ((i : Int)))), (0, .ref b), (1, .ref (ad 0)), (2, .ref (ad 7)), (3, .ref (ad 16))]) hx hb d_Law_law_661 hl (by decide) rfl (fun ls hl => ?_)
        refine lv_aload_n hx hb d_Law_law_663 rfl (lv_at hl 4 rfl) ?_
        refine lv_aload_n hx hb d_Law_law_664 rfl (lv_at hl 2 rfl) ?_
        refine lv_iload hx hb d_Law_law_665 (lv_at hl 1 rfl) ?_
        refine lv_iconst (v := iI 1) hx hb d_Law_law_667 rfl ?_
        refine ri_iadd hx hb d_Law_law_668 ?_
        refine ri_i (show ((i : Int)) + 1 = ((i + 1 : Nat) : Int) from by omega) ?_
        refine va_sld hx hb hXs hbl hbA hS (ix_in (i := i + 1) (by omega) (by omega)) d_Law_law_669 ?_
        rw [ix_cl (i := i + 1) (by omega)]
        have g1 := i32_b (xs (i + 1))
        refine ri_v (congrArg Value.int (iI_of (xs (i + 1))).symm) ?_
        refine lv_aload_n hx hb d_Law_law_670 rfl (lv_at hl 2 rfl) ?_
        refine lv_iload hx hb d_Law_law_671 (lv_at hl 1 rfl) ?_
        refine lv_iconst (v := iI 2) hx hb d_Law_law_673 rfl ?_
        refine ri_iadd hx hb d_Law_law_674 ?_
        refine ri_i (show ((i : Int)) + 2 = ((i + 2 : Nat) : Int) from by omega) ?_
        refine va_sld hx hb hXs hbl hbA hS (ix_in (i := i + 2) (by omega) (by omega)) d_Law_law_675 ?_
        rw [ix_cl (i := i + 2) (by omega)]
        have g2 := i32_b (xs (i + 2))
        refine ri_v (congrArg Value.int (iI_of (xs (i + 2))).symm) ?_
        refine ri_i2l hx hb d_Law_law_676 ?_
        refine lv_bipush (v := iI 32) hx hb d_Law_law_677 (by decide) ?_
        refine lv_lshl hx hb d_Law_law_679 rfl ?_
        refine lv_aload_n hx hb d_Law_law_680 rfl (lv_at hl 2 rfl) ?_
        refine lv_iload hx hb d_Law_law_681 (lv_at hl 1 rfl) ?_
        refine lv_iconst (v := iI 3) hx hb d_Law_law_683 rfl ?_
        refine ri_iadd hx hb d_Law_law_684 ?_
        refine ri_i (show ((i : Int)) + 3 = ((i + 3 : Nat) : Int) from by omega) ?_
        refine va_sld hx hb hXs hbl hbA hS (ix_in (i := i + 3) (by omega) (by omega)) d_Law_law_685 ?_
        rw [ix_cl (i := i + 3) (by omega)]
        have g3 := i32_b (xs (i + 3))
        refine ri_v (congrArg Value.int (iI_of (xs (i + 3))).symm) ?_
        refine ri_i2l hx hb d_Law_law_686 ?_
        refine lv_ldc2 (v := lL 4294967295) hx hb hown (hk _ kc_Law_70 _) d_Law_law_687 ?_
        refine lv_land hx hb d_Law_law_690 ?_
        refine lv_lor hx hb d_Law_law_691 ?_
        refine ri_v (y := .long (lL (tm xs i))) (congrArg Value.long (lL_of _).symm) ?_
        refine lv_aload_n hx hb d_Law_law_692 rfl (lv_at hl 2 rfl) ?_
        refine lv_iload hx hb d_Law_law_693 (lv_at hl 1 rfl) ?_
        refine lv_iconst (v := iI 4) hx hb d_Law_law_695 rfl ?_
        refine ri_iadd hx hb d_Law_law_696 ?_
        refine ri_i (show ((i : Int)) + 4 = ((i + 4 : Nat) : Int) from by omega) ?_
        refine va_sld hx hb hXs hbl hbA hS (ix_in (i := i + 4) (by omega) (by omega)) d_Law_law_697 ?_
        rw [ix_cl (i := i + 4) (by omega)]
        have g4 := i32_b (xs (i + 4))
        refine ri_v (congrArg Value.int (iI_of (xs (i + 4))).symm) ?_
        refine ri_if_eq (tgt := 705) hx hb d_Law_law_698 (by decide) (fun h698 => ?_) (fun h698 => ?_)
        · refine lv_iconst (v := iI 0) hx hb d_Law_law_705 rfl ?_
          refine m_callV (rest := []) (q0 := 0) hx hb (hml.trans hl.1.symm) hown hk hK k_Law_85 (ct_Ref_change_b l D tys (ad 7) (ad 8) (ad 9) (ad 10) (ad 11) (ad 12) (ad 13) (ad 14) (ad 15) fa nn bp yr mn dy i2 ((xs (i + 1)).toInt) (tm xs i) false (by omega) (by omega) (by omega) (by omega) (by omega)) hP hD hS [31] rfl rfl rfl rfl rfl rfl rfl ⟨rfl, rfl⟩ ⟨by decide, by decide, by show cells + 1 + 0 ≤ 601024; omega, by show slots + 6 + 0 ≤ 7293034; omega⟩ (Nat.le_of_ble_eq_true rfl) d_Law_law_706 (fun H locs hP hD hS => ?_)
          have hP : va_P D vwCl (LW ad cl aZ bZ eZ eR gR bp nn i1 bk f doff dsv dm dn off sv B E 1 yr mn dy i2 cN eF gF rr fF oF bp nn f off sv) H := hP
          have hD : va_D (fun q => s.heap.size ≤ q) (LW ad cl aZ bZ eZ eR gR bp nn i1 bk f doff dsv dm dn off sv B E 1 yr mn dy i2 cN eF gF rr fF oF bp nn f off sv) := hD
          refine lv_lstore (lv' := [(6, .long (lL 0)), (5, .int (iI 1)), (4, .int (iI ((i : Int)))), (0, .ref b), (1, .ref (ad 0)), (2, .ref (ad 7)), (3, .ref (ad 16))]) hx hb d_Law_law_709 hl (by decide) rfl (fun ls hl => ?_)
          refine lv_aload_n hx hb d_Law_law_711 rfl (lv_at hl 5 rfl) ?_
          refine p_callV (rest := []) (q0 := 0) hx hb (hml.trans hl.1.symm) hown hk hK k_Law_58 (ct_Ref_thrown l D tys (ad 7) (ad 8) (ad 9) (ad 10) (ad 11) (ad 12) (ad 13) (ad 14) (ad 15) 1 nn bp yr mn dy i2 ) (w_subP (is := [31]) hP rfl) (w_subD (is := [31]) hD rfl rfl) rfl rfl rfl rfl ⟨rfl, rfl⟩ ⟨by decide, by decide, by show cells + 1 + 0 ≤ 601024; omega, by show slots + 6 + 0 ≤ 7293034; omega⟩ (Nat.le_of_ble_eq_true rfl) d_Law_law_712 ?_
          refine lv_iload hx hb d_Law_law_715 (lv_at hl 1 rfl) ?_
          refine ri_icmp_eq (tgt := 722) hx hb d_Law_law_717 (by decide) (fun h717 => ?_) (fun h717 => ?_)
          · refine lv_iload hx hb d_Law_law_722 (lv_at hl 1 rfl) ?_
            refine ri_if_ne (tgt := 738) hx hb d_Law_law_724 (by decide) (fun h724 => ?_) (fun h724 => ?_)
            · refine lv_goto (tgt := 866) hx hb d_Law_law_738 (by decide) ?_
              refine W.widen (k := cells + 2) (n := slots + 12) (by omega) (by omega) ?_
              exact kk _ _ _ _ _ _ _ _ _ _ _ _ _ 1 _ _ _ _ _ _ _ _ _ _ H locs ls hLI hP hD hS (lv_sub hl [2, 3, 4, 5, 6] rfl)
            · exfalso; omega
          · exfalso; exact h717 rfl
        · exfalso; omega
      · exfalso; omega
  · skip
    by_cases hz : (0 ≤ (xs (i + 1)).toInt ∧ (xs (i + 1)).toInt < 8) ∧ (0 ≤ tm xs i ∧ tm xs i ≤ 10413791999999)
    · obtain ⟨⟨z1, z2⟩, ⟨gt1, gt2⟩⟩ := hz
      obtain ⟨zi, hzi⟩ : ∃ zi : Nat, (xs (i + 1)).toInt = (zi : Int) := ⟨((xs (i + 1)).toInt).toNat, by omega⟩
      have gz : zi < 8 := by omega
      obtain ⟨go1, go2, gs1, gs2, gc, hs, gb, ge⟩ := LI_z hLI gz
      have gr := hLI.2.1 zi gz
      have hAns := rel_chg gr gt1 gt2 true
      have gA : -1000000000000000 ≤ aChg (off zi) (sv zi) ((B zi).1, (B zi).2.1, (B zi).2.2.1, (B zi).2.2.2) ((E zi).1, (E zi).2.1, (E zi).2.2.1, (E zi).2.2.2) (tm xs i) true ∧ aChg (off zi) (sv zi) ((B zi).1, (B zi).2.1, (B zi).2.2.1, (B zi).2.2.2) ((E zi).1, (E zi).2.1, (E zi).2.2.1, (E zi).2.2.2) (tm xs i) true ≤ 1000000000000000 := aChg_b hLI gz gt1 gt2 true
      have gA2 := gA
      rw [show aChg (off zi) (sv zi) ((B zi).1, (B zi).2.1, (B zi).2.2.1, (B zi).2.2.2) ((E zi).1, (E zi).2.1, (E zi).2.2.1, (E zi).2.2.2) (tm xs i) true = _ from hAns] at gA2
      refine lv_aload_n hx hb d_Law_law_614 rfl (lv_at hl 2 rfl) ?_
      refine lv_aload_n hx hb d_Law_law_615 rfl (lv_at hl 1 rfl) ?_
      refine lv_iload hx hb d_Law_law_616 (lv_at hl 0 rfl) ?_
      refine lv_iconst (v := iI 1) hx hb d_Law_law_618 rfl ?_
      refine ri_iadd hx hb d_Law_law_619 ?_
      refine ri_i (show ((i : Int)) + 1 = ((i + 1 : Nat) : Int) from by omega) ?_
      refine va_sld hx hb hXs hbl hbA hS (ix_in (i := i + 1) (by omega) (by omega)) d_Law_law_620 ?_
      rw [ix_cl (i := i + 1) (by omega)]
      have g1 := i32_b (xs (i + 1))
      refine ri_v (congrArg Value.int (iI_of (xs (i + 1))).symm) ?_
      refine ri_i hzi ?_
      refine lv_aload_n hx hb d_Law_law_621 rfl (lv_at hl 1 rfl) ?_
      refine lv_iload hx hb d_Law_law_622 (lv_at hl 0 rfl) ?_
      refine lv_iconst (v := iI 2) hx hb d_Law_law_624 rfl ?_
      refine ri_iadd hx hb d_Law_law_625 ?_
      refine ri_i (show ((i : Int)) + 2 = ((i + 2 : Nat) : Int) from by omega) ?_
      refine va_sld hx hb hXs hbl hbA hS (ix_in (i := i + 2) (by omega) (by omega)) d_Law_law_626 ?_
      rw [ix_cl (i := i + 2) (by omega)]
      have g2 := i32_b (xs (i + 2))
      refine ri_v (congrArg Value.int (iI_of (xs (i + 2))).symm) ?_
      refine ri_i2l hx hb d_Law_law_627 ?_
      refine lv_bipush (v := iI 32) hx hb d_Law_law_628 (by decide) ?_
      refine lv_lshl hx hb d_Law_law_630 rfl ?_
      refine lv_aload_n hx hb d_Law_law_631 rfl (lv_at hl 1 rfl) ?_
      refine lv_iload hx hb d_Law_law_632 (lv_at hl 0 rfl) ?_
      refine lv_iconst (v := iI 3) hx hb d_Law_law_634 rfl ?_
      refine ri_iadd hx hb d_Law_law_635 ?_
      refine ri_i (show ((i : Int)) + 3 = ((i + 3 : Nat) : Int) from by omega) ?_
      refine va_sld hx hb hXs hbl hbA hS (ix_in (i := i + 3) (by omega) (by omega)) d_Law_law_636 ?_
      rw [ix_cl (i := i + 3) (by omega)]
      have g3 := i32_b (xs (i + 3))
      refine ri_v (congrArg Value.int (iI_of (xs (i + 3))).symm) ?_
      refine ri_i2l hx hb d_Law_law_637 ?_
      refine lv_ldc2 (v := lL 4294967295) hx hb hown (hk _ kc_Law_70 _) d_Law_law_638 ?_
      refine lv_land hx hb d_Law_law_641 ?_
      refine lv_lor hx hb d_Law_law_642 ?_
      refine ri_v (y := .long (lL (tm xs i))) (congrArg Value.long (lL_of _).symm) ?_
      refine lv_aload_n hx hb d_Law_law_643 rfl (lv_at hl 1 rfl) ?_
      refine lv_iload hx hb d_Law_law_644 (lv_at hl 0 rfl) ?_
      refine lv_iconst (v := iI 4) hx hb d_Law_law_646 rfl ?_
      refine ri_iadd hx hb d_Law_law_647 ?_
      refine ri_i (show ((i : Int)) + 4 = ((i + 4 : Nat) : Int) from by omega) ?_
      refine va_sld hx hb hXs hbl hbA hS (ix_in (i := i + 4) (by omega) (by omega)) d_Law_law_648 ?_
      rw [ix_cl (i := i + 4) (by omega)]
      have g4 := i32_b (xs (i + 4))
      refine ri_v (congrArg Value.int (iI_of (xs (i + 4))).symm) ?_
      refine ri_if_eq (tgt := 656) hx hb d_Law_law_649 (by decide) (fun h649 => ?_) (fun h649 => ?_)
      · exfalso; omega
      · refine lv_iconst (v := iI 1) hx hb d_Law_law_652 rfl ?_
        refine lv_goto (tgt := 657) hx hb d_Law_law_653 (by decide) ?_
        refine lv_aload_n hx hb d_Law_law_657 rfl (lv_at hl 4 rfl) ?_
        refine t_call (t_runS (rest := []) hx hb (hml.trans hl.1.symm) hown hk hK k_Law_83 (ct_Law_change l D tys aS hoff (ad 0) (ad 1) (ad 3) (ad 6) bp (cl 4) aZ zi (bZ zi) (eZ zi) (off zi) (sv zi) ((B zi).1) ((B zi).2.1) ((B zi).2.2.1) ((B zi).2.2.2) ((E zi).1) ((E zi).2.1) ((E zi).2.2.1) ((E zi).2.2.2) (tm xs i) true (ad 16) (cl 2) oF hJ htz gz (by omega) (by omega) (by omega) (by omega) gb ge (by omega) (by omega)) (w_subP (is := [0, 6, 7 + 3 * zi, 8 + 3 * zi, 9 + 3 * zi, 56]) hP (by rcases z8 gz with rfl | rfl | rfl | rfl | rfl | rfl | rfl | rfl <;> rfl)) ((hD.sub [0, 6, 7 + 3 * zi, 8 + 3 * zi, 9 + 3 * zi, 56] (by rcases z8 gz with rfl | rfl | rfl | rfl | rfl | rfl | rfl | rfl <;> rfl) (by rcases z8 gz with rfl | rfl | rfl | rfl | rfl | rfl | rfl | rfl <;> rfl)).weaken (fun _ q _ h => hAS q.1 h)) (hZ.kept (hS.2.1 aS hZ.2.2 (fun h => hAS aS h rfl))) hN rfl rfl ⟨by decide, by decide, by show cells + 0 ≤ 601024; omega, by show slots + 0 ≤ 7293034; omega⟩ (Nat.le_of_ble_eq_true rfl) d_Law_law_658) hP hD hS [0, 6, 7 + 3 * zi, 8 + 3 * zi, 9 + 3 * zi, 56] (by rcases z8 gz with rfl | rfl | rfl | rfl | rfl | rfl | rfl | rfl <;> rfl) (fun w1 H locs hw hP hD hS => ?_)
        subst hw
        have hP : va_P D vwCl (LW ad cl aZ bZ eZ eR gR bp nn i1 bk f doff dsv dm dn off sv B E fa yr mn dy i2 cN eF gF rr fF (vp_updL oF 0 (lL (aChg (off zi) (sv zi) (((B zi).1), ((B zi).2.1), ((B zi).2.2.1), ((B zi).2.2.2)) (((E zi).1), ((E zi).2.1), ((E zi).2.2.1), ((E zi).2.2.2)) (tm xs i) true))) bp nn f off sv) H := by rcases z8 gz with rfl | rfl | rfl | rfl | rfl | rfl | rfl | rfl <;> exact hP
        have hD : va_D (fun q => s.heap.size ≤ q) (LW ad cl aZ bZ eZ eR gR bp nn i1 bk f doff dsv dm dn off sv B E fa yr mn dy i2 cN eF gF rr fF (vp_updL oF 0 (lL (aChg (off zi) (sv zi) (((B zi).1), ((B zi).2.1), ((B zi).2.2.1), ((B zi).2.2.2)) (((E zi).1), ((E zi).2.1), ((E zi).2.2.1), ((E zi).2.2.2)) (tm xs i) true))) bp nn f off sv) := by rcases z8 gz with rfl | rfl | rfl | rfl | rfl | rfl | rfl | rfl <;> exact hD
        refine lv_istore (lv' := [(5, .int (iI 0)), (4, .int (iI ((i : Int)))), (0, .ref b), (1, .ref (ad 0)), (2, .ref (ad 7)), (3, .ref (ad 16))]) hx hb d_Law_law_661 hl (by decide) rfl (fun ls hl => ?_)
        refine lv_aload_n hx hb d_Law_law_663 rfl (lv_at hl 4 rfl) ?_
        refine lv_aload_n hx hb d_Law_law_664 rfl (lv_at hl 2 rfl) ?_
        refine lv_iload hx hb d_Law_law_665 (lv_at hl 1 rfl) ?_
        refine lv_iconst (v := iI 1) hx hb d_Law_law_667 rfl ?_
        refine ri_iadd hx hb d_Law_law_668 ?_
        refine ri_i (show ((i : Int)) + 1 = ((i + 1 : Nat) : Int) from by omega) ?_
        refine va_sld hx hb hXs hbl hbA hS (ix_in (i := i + 1) (by omega) (by omega)) d_Law_law_669 ?_
        rw [ix_cl (i := i + 1) (by omega)]
        have g1 := i32_b (xs (i + 1))
        refine ri_v (congrArg Value.int (iI_of (xs (i + 1))).symm) ?_
        refine ri_i hzi ?_
        refine lv_aload_n hx hb d_Law_law_670 rfl (lv_at hl 2 rfl) ?_
        refine lv_iload hx hb d_Law_law_671 (lv_at hl 1 rfl) ?_
        refine lv_iconst (v := iI 2) hx hb d_Law_law_673 rfl ?_
        refine ri_iadd hx hb d_Law_law_674 ?_
        refine ri_i (show ((i : Int)) + 2 = ((i + 2 : Nat) : Int) from by omega) ?_
        refine va_sld hx hb hXs hbl hbA hS (ix_in (i := i + 2) (by omega) (by omega)) d_Law_law_675 ?_
        rw [ix_cl (i := i + 2) (by omega)]
        have g2 := i32_b (xs (i + 2))
        refine ri_v (congrArg Value.int (iI_of (xs (i + 2))).symm) ?_
        refine ri_i2l hx hb d_Law_law_676 ?_
        refine lv_bipush (v := iI 32) hx hb d_Law_law_677 (by decide) ?_
        refine lv_lshl hx hb d_Law_law_679 rfl ?_
        refine lv_aload_n hx hb d_Law_law_680 rfl (lv_at hl 2 rfl) ?_
        refine lv_iload hx hb d_Law_law_681 (lv_at hl 1 rfl) ?_
        refine lv_iconst (v := iI 3) hx hb d_Law_law_683 rfl ?_
        refine ri_iadd hx hb d_Law_law_684 ?_
        refine ri_i (show ((i : Int)) + 3 = ((i + 3 : Nat) : Int) from by omega) ?_
        refine va_sld hx hb hXs hbl hbA hS (ix_in (i := i + 3) (by omega) (by omega)) d_Law_law_685 ?_
        rw [ix_cl (i := i + 3) (by omega)]
        have g3 := i32_b (xs (i + 3))
        refine ri_v (congrArg Value.int (iI_of (xs (i + 3))).symm) ?_
        refine ri_i2l hx hb d_Law_law_686 ?_
        refine lv_ldc2 (v := lL 4294967295) hx hb hown (hk _ kc_Law_70 _) d_Law_law_687 ?_
        refine lv_land hx hb d_Law_law_690 ?_
        refine lv_lor hx hb d_Law_law_691 ?_
        refine ri_v (y := .long (lL (tm xs i))) (congrArg Value.long (lL_of _).symm) ?_
        refine lv_aload_n hx hb d_Law_law_692 rfl (lv_at hl 2 rfl) ?_
        refine lv_iload hx hb d_Law_law_693 (lv_at hl 1 rfl) ?_
        refine lv_iconst (v := iI 4) hx hb d_Law_law_695 rfl ?_
        refine ri_iadd hx hb d_Law_law_696 ?_
        refine ri_i (show ((i : Int)) + 4 = ((i + 4 : Nat) : Int) from by omega) ?_
        refine va_sld hx hb hXs hbl hbA hS (ix_in (i := i + 4) (by omega) (by omega)) d_Law_law_697 ?_
        rw [ix_cl (i := i + 4) (by omega)]
        have g4 := i32_b (xs (i + 4))
        refine ri_v (congrArg Value.int (iI_of (xs (i + 4))).symm) ?_
        refine ri_if_eq (tgt := 705) hx hb d_Law_law_698 (by decide) (fun h698 => ?_) (fun h698 => ?_)
        · exfalso; omega
        · refine lv_iconst (v := iI 1) hx hb d_Law_law_701 rfl ?_
          refine lv_goto (tgt := 706) hx hb d_Law_law_702 (by decide) ?_
          refine m_callV (rest := []) (q0 := 0) hx hb (hml.trans hl.1.symm) hown hk hK k_Law_85 (ct_Ref_change l D tys (ad 7) (ad 8) (ad 9) (ad 10) (ad 11) (ad 12) (ad 13) (ad 14) (ad 15) fa nn bp yr mn dy i2 (cl 1) (cl 2) (cl 3) (cl 5) (cl 6) off sv cN eR gR zi (eF zi) (gF zi) (tm xs i) true hI hJ hG hJJ hGG gz gc (hLI.2.2.1 zi gz) hs (by omega) (by omega) (by omega) (by omega) (by omega) (by omega)) hP hD hS [31, 33, 34, 35, 44, 53, 36 + zi, 45 + zi] (by rcases z8 gz with rfl | rfl | rfl | rfl | rfl | rfl | rfl | rfl <;> rfl) (by rcases z8 gz with rfl | rfl | rfl | rfl | rfl | rfl | rfl | rfl <;> rfl) rfl rfl rfl rfl rfl ⟨rfl, rfl⟩ ⟨by decide, by decide, by show cells + 0 ≤ 601024; omega, by show slots + 0 ≤ 7293034; omega⟩ (Nat.le_of_ble_eq_true rfl) d_Law_law_706 (fun H locs hP hD hS => ?_)
          have hP : va_P D vwCl (LW ad cl aZ bZ eZ eR gR bp nn i1 bk f doff dsv dm dn off sv B E 0 yr mn dy i2 cN eF gF rr fF (vp_updL oF 0 (lL (aChg (off zi) (sv zi) (((B zi).1), ((B zi).2.1), ((B zi).2.2.1), ((B zi).2.2.2)) (((E zi).1), ((E zi).2.1), ((E zi).2.2.1), ((E zi).2.2.2)) (tm xs i) true))) bp nn f off sv) H := by rcases z8 gz with rfl | rfl | rfl | rfl | rfl | rfl | rfl | rfl <;> exact hP
          have hD : va_D (fun q => s.heap.size ≤ q) (LW ad cl aZ bZ eZ eR gR bp nn i1 bk f doff dsv dm dn off sv B E 0 yr mn dy i2 cN eF gF rr fF (vp_updL oF 0 (lL (aChg (off zi) (sv zi) (((B zi).1), ((B zi).2.1), ((B zi).2.2.1), ((B zi).2.2.2)) (((E zi).1), ((E zi).2.1), ((E zi).2.2.1), ((E zi).2.2.2)) (tm xs i) true))) bp nn f off sv) := by rcases z8 gz with rfl | rfl | rfl | rfl | rfl | rfl | rfl | rfl <;> exact hD
          refine lv_lstore (lv' := [(6, .long (lL (if bI true = 0 then (if evK (eF zi) (tm xs i) (cN zi) = cN zi then -1 else (eF zi) (evK (eF zi) (tm xs i) (cN zi))) else (if evK (eF zi) (tm xs i) (cN zi) = 0 ∨ (eF zi) (evK (eF zi) (tm xs i) (cN zi) - 1) < 0 then -1 else (eF zi) (evK (eF zi) (tm xs i) (cN zi) - 1))))), (5, .int (iI 0)), (4, .int (iI ((i : Int)))), (0, .ref b), (1, .ref (ad 0)), (2, .ref (ad 7)), (3, .ref (ad 16))]) hx hb d_Law_law_709 hl (by decide) rfl (fun ls hl => ?_)
          refine lv_aload_n hx hb d_Law_law_711 rfl (lv_at hl 5 rfl) ?_
          refine p_callV (rest := []) (q0 := 0) hx hb (hml.trans hl.1.symm) hown hk hK k_Law_58 (ct_Ref_thrown l D tys (ad 7) (ad 8) (ad 9) (ad 10) (ad 11) (ad 12) (ad 13) (ad 14) (ad 15) 0 nn bp yr mn dy i2 ) (w_subP (is := [31]) hP rfl) (w_subD (is := [31]) hD rfl rfl) rfl rfl rfl rfl ⟨rfl, rfl⟩ ⟨by decide, by decide, by show cells + 0 ≤ 601024; omega, by show slots + 0 ≤ 7293034; omega⟩ (Nat.le_of_ble_eq_true rfl) d_Law_law_712 ?_
          refine lv_iload hx hb d_Law_law_715 (lv_at hl 1 rfl) ?_
          refine ri_icmp_eq (tgt := 722) hx hb d_Law_law_717 (by decide) (fun h717 => ?_) (fun h717 => ?_)
          · refine lv_iload hx hb d_Law_law_722 (lv_at hl 1 rfl) ?_
            refine ri_if_ne (tgt := 738) hx hb d_Law_law_724 (by decide) (fun h724 => ?_) (fun h724 => ?_)
            · exfalso; exact h724 rfl
            · refine lv_aload_n hx hb d_Law_law_727 rfl (lv_at hl 6 rfl) ?_
              refine lv_iconst (v := iI 0) hx hb d_Law_law_728 rfl ?_
              refine ri_i (show (0 : Int) = ((0 : Nat) : Int) from rfl) ?_
              refine g_lald (i := 0) hx hb hK hP 56 2 rfl hJ d_Law_law_729 ?_ (by decide) (by decide)
              refine ri_v (y := .long (lL (aChg (off zi) (sv zi) (((B zi).1), ((B zi).2.1), ((B zi).2.2.1), ((B zi).2.2.2)) (((E zi).1), ((E zi).2.1), ((E zi).2.2.1), ((E zi).2.2.2)) (tm xs i) true))) rfl ?_
              refine lv_lload hx hb d_Law_law_730 (lv_at hl 0 rfl) ?_
              refine ri_lcmp_eq (tgt := 738) hx hb d_Law_law_732 d_Law_law_733 (by decide) (fun h732 => ?_) (fun h732 => ?_)
              · refine lv_goto (tgt := 866) hx hb d_Law_law_738 (by decide) ?_
                refine W.widen (k := cells + 2) (n := slots + 12) (by omega) (by omega) ?_
                exact kk _ _ _ _ _ _ _ _ _ _ _ _ _ 0 _ _ _ _ _ _ _ _ _ (vp_updL oF 0 (lL (aChg (off zi) (sv zi) (((B zi).1), ((B zi).2.1), ((B zi).2.2.1), ((B zi).2.2.2)) (((E zi).1), ((E zi).2.1), ((E zi).2.2.1), ((E zi).2.2.2)) (tm xs i) true))) H locs ls hLI hP hD hS (lv_sub hl [2, 3, 4, 5, 6] rfl)
              · exfalso; exact h732 hAns
          · exfalso; exact h717 rfl
    · skip
      refine lv_aload_n hx hb d_Law_law_614 rfl (lv_at hl 2 rfl) ?_
      refine lv_aload_n hx hb d_Law_law_615 rfl (lv_at hl 1 rfl) ?_
      refine lv_iload hx hb d_Law_law_616 (lv_at hl 0 rfl) ?_
      refine lv_iconst (v := iI 1) hx hb d_Law_law_618 rfl ?_
      refine ri_iadd hx hb d_Law_law_619 ?_
      refine ri_i (show ((i : Int)) + 1 = ((i + 1 : Nat) : Int) from by omega) ?_
      refine va_sld hx hb hXs hbl hbA hS (ix_in (i := i + 1) (by omega) (by omega)) d_Law_law_620 ?_
      rw [ix_cl (i := i + 1) (by omega)]
      have g1 := i32_b (xs (i + 1))
      refine ri_v (congrArg Value.int (iI_of (xs (i + 1))).symm) ?_
      refine lv_aload_n hx hb d_Law_law_621 rfl (lv_at hl 1 rfl) ?_
      refine lv_iload hx hb d_Law_law_622 (lv_at hl 0 rfl) ?_
      refine lv_iconst (v := iI 2) hx hb d_Law_law_624 rfl ?_
      refine ri_iadd hx hb d_Law_law_625 ?_
      refine ri_i (show ((i : Int)) + 2 = ((i + 2 : Nat) : Int) from by omega) ?_
      refine va_sld hx hb hXs hbl hbA hS (ix_in (i := i + 2) (by omega) (by omega)) d_Law_law_626 ?_
      rw [ix_cl (i := i + 2) (by omega)]
      have g2 := i32_b (xs (i + 2))
      refine ri_v (congrArg Value.int (iI_of (xs (i + 2))).symm) ?_
      refine ri_i2l hx hb d_Law_law_627 ?_
      refine lv_bipush (v := iI 32) hx hb d_Law_law_628 (by decide) ?_
      refine lv_lshl hx hb d_Law_law_630 rfl ?_
      refine lv_aload_n hx hb d_Law_law_631 rfl (lv_at hl 1 rfl) ?_
      refine lv_iload hx hb d_Law_law_632 (lv_at hl 0 rfl) ?_
      refine lv_iconst (v := iI 3) hx hb d_Law_law_634 rfl ?_
      refine ri_iadd hx hb d_Law_law_635 ?_
      refine ri_i (show ((i : Int)) + 3 = ((i + 3 : Nat) : Int) from by omega) ?_
      refine va_sld hx hb hXs hbl hbA hS (ix_in (i := i + 3) (by omega) (by omega)) d_Law_law_636 ?_
      rw [ix_cl (i := i + 3) (by omega)]
      have g3 := i32_b (xs (i + 3))
      refine ri_v (congrArg Value.int (iI_of (xs (i + 3))).symm) ?_
      refine ri_i2l hx hb d_Law_law_637 ?_
      refine lv_ldc2 (v := lL 4294967295) hx hb hown (hk _ kc_Law_70 _) d_Law_law_638 ?_
      refine lv_land hx hb d_Law_law_641 ?_
      refine lv_lor hx hb d_Law_law_642 ?_
      refine ri_v (y := .long (lL (tm xs i))) (congrArg Value.long (lL_of _).symm) ?_
      refine lv_aload_n hx hb d_Law_law_643 rfl (lv_at hl 1 rfl) ?_
      refine lv_iload hx hb d_Law_law_644 (lv_at hl 0 rfl) ?_
      refine lv_iconst (v := iI 4) hx hb d_Law_law_646 rfl ?_
      refine ri_iadd hx hb d_Law_law_647 ?_
      refine ri_i (show ((i : Int)) + 4 = ((i + 4 : Nat) : Int) from by omega) ?_
      refine va_sld hx hb hXs hbl hbA hS (ix_in (i := i + 4) (by omega) (by omega)) d_Law_law_648 ?_
      rw [ix_cl (i := i + 4) (by omega)]
      have g4 := i32_b (xs (i + 4))
      refine ri_v (congrArg Value.int (iI_of (xs (i + 4))).symm) ?_
      refine ri_if_eq (tgt := 656) hx hb d_Law_law_649 (by decide) (fun h649 => ?_) (fun h649 => ?_)
      · exfalso; omega
      · refine lv_iconst (v := iI 1) hx hb d_Law_law_652 rfl ?_
        refine lv_goto (tgt := 657) hx hb d_Law_law_653 (by decide) ?_
        refine lv_aload_n hx hb d_Law_law_657 rfl (lv_at hl 4 rfl) ?_
        refine t_call (t_runS (rest := []) hx hb (hml.trans hl.1.symm) hown hk hK k_Law_83 (ct_Law_change_x l D tys aS hoff (ad 0) (ad 1) (ad 3) (ad 6) bp (cl 4) aZ ((xs (i + 1)).toInt) (tm xs i) true (ad 16) htz (by omega) (by omega) (by omega) (by omega) (by omega)) (w_subP (is := [0, 6]) hP rfl) ((hD.sub [0, 6] rfl rfl).weaken (fun _ q _ h => hAS q.1 h)) (hZ.kept (hS.2.1 aS hZ.2.2 (fun h => hAS aS h rfl))) hN rfl rfl ⟨by decide, by decide, by show cells + 1 ≤ 601024; omega, by show slots + 6 ≤ 7293034; omega⟩ (Nat.le_of_ble_eq_true rfl) d_Law_law_658) hP hD hS [0, 6] rfl (fun w1 H locs hw hP hD hS => ?_)
        subst hw
        have hP : va_P D vwCl (LW ad cl aZ bZ eZ eR gR bp nn i1 bk f doff dsv dm dn off sv B E fa yr mn dy i2 cN eF gF rr fF oF bp nn f off sv) H := hP
        have hD : va_D (fun q => s.heap.size ≤ q) (LW ad cl aZ bZ eZ eR gR bp nn i1 bk f doff dsv dm dn off sv B E fa yr mn dy i2 cN eF gF rr fF oF bp nn f off sv) := hD
        refine lv_istore (lv' := [(5, .int (iI 1)), (4, .int (iI ((i : Int)))), (0, .ref b), (1, .ref (ad 0)), (2, .ref (ad 7)), (3, .ref (ad 16))]) hx hb d_Law_law_661 hl (by decide) rfl (fun ls hl => ?_)
        refine lv_aload_n hx hb d_Law_law_663 rfl (lv_at hl 4 rfl) ?_
        refine lv_aload_n hx hb d_Law_law_664 rfl (lv_at hl 2 rfl) ?_
        refine lv_iload hx hb d_Law_law_665 (lv_at hl 1 rfl) ?_
        refine lv_iconst (v := iI 1) hx hb d_Law_law_667 rfl ?_
        refine ri_iadd hx hb d_Law_law_668 ?_
        refine ri_i (show ((i : Int)) + 1 = ((i + 1 : Nat) : Int) from by omega) ?_
        refine va_sld hx hb hXs hbl hbA hS (ix_in (i := i + 1) (by omega) (by omega)) d_Law_law_669 ?_
        rw [ix_cl (i := i + 1) (by omega)]
        have g1 := i32_b (xs (i + 1))
        refine ri_v (congrArg Value.int (iI_of (xs (i + 1))).symm) ?_
        refine lv_aload_n hx hb d_Law_law_670 rfl (lv_at hl 2 rfl) ?_
        refine lv_iload hx hb d_Law_law_671 (lv_at hl 1 rfl) ?_
        refine lv_iconst (v := iI 2) hx hb d_Law_law_673 rfl ?_
        refine ri_iadd hx hb d_Law_law_674 ?_
        refine ri_i (show ((i : Int)) + 2 = ((i + 2 : Nat) : Int) from by omega) ?_
        refine va_sld hx hb hXs hbl hbA hS (ix_in (i := i + 2) (by omega) (by omega)) d_Law_law_675 ?_
        rw [ix_cl (i := i + 2) (by omega)]
        have g2 := i32_b (xs (i + 2))
        refine ri_v (congrArg Value.int (iI_of (xs (i + 2))).symm) ?_
        refine ri_i2l hx hb d_Law_law_676 ?_
        refine lv_bipush (v := iI 32) hx hb d_Law_law_677 (by decide) ?_
        refine lv_lshl hx hb d_Law_law_679 rfl ?_
        refine lv_aload_n hx hb d_Law_law_680 rfl (lv_at hl 2 rfl) ?_
        refine lv_iload hx hb d_Law_law_681 (lv_at hl 1 rfl) ?_
        refine lv_iconst (v := iI 3) hx hb d_Law_law_683 rfl ?_
        refine ri_iadd hx hb d_Law_law_684 ?_
        refine ri_i (show ((i : Int)) + 3 = ((i + 3 : Nat) : Int) from by omega) ?_
        refine va_sld hx hb hXs hbl hbA hS (ix_in (i := i + 3) (by omega) (by omega)) d_Law_law_685 ?_
        rw [ix_cl (i := i + 3) (by omega)]
        have g3 := i32_b (xs (i + 3))
        refine ri_v (congrArg Value.int (iI_of (xs (i + 3))).symm) ?_
        refine ri_i2l hx hb d_Law_law_686 ?_
        refine lv_ldc2 (v := lL 4294967295) hx hb hown (hk _ kc_Law_70 _) d_Law_law_687 ?_
        refine lv_land hx hb d_Law_law_690 ?_
        refine lv_lor hx hb d_Law_law_691 ?_
        refine ri_v (y := .long (lL (tm xs i))) (congrArg Value.long (lL_of _).symm) ?_
        refine lv_aload_n hx hb d_Law_law_692 rfl (lv_at hl 2 rfl) ?_
        refine lv_iload hx hb d_Law_law_693 (lv_at hl 1 rfl) ?_
        refine lv_iconst (v := iI 4) hx hb d_Law_law_695 rfl ?_
        refine ri_iadd hx hb d_Law_law_696 ?_
        refine ri_i (show ((i : Int)) + 4 = ((i + 4 : Nat) : Int) from by omega) ?_
        refine va_sld hx hb hXs hbl hbA hS (ix_in (i := i + 4) (by omega) (by omega)) d_Law_law_697 ?_
        rw [ix_cl (i := i + 4) (by omega)]
        have g4 := i32_b (xs (i + 4))
        refine ri_v (congrArg Value.int (iI_of (xs (i + 4))).symm) ?_
        refine ri_if_eq (tgt := 705) hx hb d_Law_law_698 (by decide) (fun h698 => ?_) (fun h698 => ?_)
        · exfalso; omega
        · refine lv_iconst (v := iI 1) hx hb d_Law_law_701 rfl ?_
          refine lv_goto (tgt := 706) hx hb d_Law_law_702 (by decide) ?_
          refine m_callV (rest := []) (q0 := 0) hx hb (hml.trans hl.1.symm) hown hk hK k_Law_85 (ct_Ref_change_b l D tys (ad 7) (ad 8) (ad 9) (ad 10) (ad 11) (ad 12) (ad 13) (ad 14) (ad 15) fa nn bp yr mn dy i2 ((xs (i + 1)).toInt) (tm xs i) true (by omega) (by omega) (by omega) (by omega) (by omega)) hP hD hS [31] rfl rfl rfl rfl rfl rfl rfl ⟨rfl, rfl⟩ ⟨by decide, by decide, by show cells + 1 + 0 ≤ 601024; omega, by show slots + 6 + 0 ≤ 7293034; omega⟩ (Nat.le_of_ble_eq_true rfl) d_Law_law_706 (fun H locs hP hD hS => ?_)
          have hP : va_P D vwCl (LW ad cl aZ bZ eZ eR gR bp nn i1 bk f doff dsv dm dn off sv B E 1 yr mn dy i2 cN eF gF rr fF oF bp nn f off sv) H := hP
          have hD : va_D (fun q => s.heap.size ≤ q) (LW ad cl aZ bZ eZ eR gR bp nn i1 bk f doff dsv dm dn off sv B E 1 yr mn dy i2 cN eF gF rr fF oF bp nn f off sv) := hD
          refine lv_lstore (lv' := [(6, .long (lL 0)), (5, .int (iI 1)), (4, .int (iI ((i : Int)))), (0, .ref b), (1, .ref (ad 0)), (2, .ref (ad 7)), (3, .ref (ad 16))]) hx hb d_Law_law_709 hl (by decide) rfl (fun ls hl => ?_)
          refine lv_aload_n hx hb d_Law_law_711 rfl (lv_at hl 5 rfl) ?_
          refine p_callV (rest := []) (q0 := 0) hx hb (hml.trans hl.1.symm) hown hk hK k_Law_58 (ct_Ref_thrown l D tys (ad 7) (ad 8) (ad 9) (ad 10) (ad 11) (ad 12) (ad 13) (ad 14) (ad 15) 1 nn bp yr mn dy i2 ) (w_subP (is := [31]) hP rfl) (w_subD (is := [31]) hD rfl rfl) rfl rfl rfl rfl ⟨rfl, rfl⟩ ⟨by decide, by decide, by show cells + 1 + 0 ≤ 601024; omega, by show slots + 6 + 0 ≤ 7293034; omega⟩ (Nat.le_of_ble_eq_true rfl) d_Law_law_712 ?_
          refine lv_iload hx hb d_Law_law_715 (lv_at hl 1 rfl) ?_
          refine ri_icmp_eq (tgt := 722) hx hb d_Law_law_717 (by decide) (fun h717 => ?_) (fun h717 => ?_)
          · refine lv_iload hx hb d_Law_law_722 (lv_at hl 1 rfl) ?_
            refine ri_if_ne (tgt := 738) hx hb d_Law_law_724 (by decide) (fun h724 => ?_) (fun h724 => ?_)
            · refine lv_goto (tgt := 866) hx hb d_Law_law_738 (by decide) ?_
              refine W.widen (k := cells + 2) (n := slots + 12) (by omega) (by omega) ?_
              exact kk _ _ _ _ _ _ _ _ _ _ _ _ _ 1 _ _ _ _ _ _ _ _ _ _ H locs ls hLI hP hD hS (lv_sub hl [2, 3, 4, 5, 6] rfl)
            · exfalso; omega
          · exfalso; exact h717 rfl
