/-! The law's rounds: feed, end. By program (wip/whole/m_step4.py). -/
set_option maxHeartbeats 4000000 in
set_option maxRecDepth 100000 in
theorem st_feed {p : Program} {l : Launch} {e : Env} {s : State} {m : MethodId} {below : List Frame} {meth : Method} {c : Code} {b L : Nat} {xs : Nat → Int32} {D : va_G} {tys : List (ClassId × FieldType)} {aS : Nat} {ad : Nat → Nat} {cl : Nat → ClassId} {aZ : Nat → Nat} {bZ : Nat → Nat} {eZ : Nat → Nat} {eR : Nat → Nat} {gR : Nat → Nat} {bp : Int} {nn : Nat} {i1 : Nat} {bk : Bool} {f : Nat → Int32} {doff : Int} {dsv : Int} {dm : RU} {dn : RU} {off : Nat → Int} {sv : Nat → Int} {B : Nat → RU} {E : Nat → RU} {fa : Int} {yr : Int} {mn : Int} {dy : Int} {i2 : Nat} {cN : Nat → Nat} {eF : Nat → Nat → Int} {gF : Nat → Nat → Bool} {rr : Nat → Int32} {fF : Nat → Int64} {oF : Nat → Int64} {i cells slots : Nat} {H : Heap} {locs : List Loc} {ls : Array Slot} {Q : State → Prop} (C0 : LC p l s m meth c b L xs D tys cl aS) (hLI : LI bp nn off sv B E cN eF gF) (hi : i + 6 ≤ L) (hcl : cells ≤ 600000) (hsl : slots ≤ 7000000) (hP : va_P D vwCl (LW ad cl aZ bZ eZ eR gR bp nn i1 bk f doff dsv dm dn off sv B E fa yr mn dy i2 cN eF gF rr fF oF bp nn f off sv) H) (hD : va_D (fun q => s.heap.size ≤ q) (LW ad cl aZ bZ eZ eR gR bp nn i1 bk f doff dsv dm dn off sv B E fa yr mn dy i2 cN eF gF rr fF oF bp nn f off sv)) (hS : va_S (fun q => s.heap.size ≤ q) s.heap H locs) (hl : lv_has ls 8 [(4, .int (iI (i : Int))), (0, .ref b), (1, .ref (ad 0)), (2, .ref (ad 7)), (3, .ref (ad 16))]) (kk : LK p l e s m below meth c b D ad cl aZ bZ eZ eR gR i (cells + 2) (slots + 12) Q) : W p l e room_1 s m #[.ref b] below meth c H locs cells slots Q (F0 m 92 ls []) := by
  obtain ⟨hx, hb, hr, hml, hown, hlk, hk, hK, hZ, hN, hXs, hbl, hL, hoff, hty, hI, hJ, hG, htz, hJJ, hGG⟩ := C0
  have hAS : ∀ q, s.heap.size ≤ q → q ≠ aS := fun q h => by have := hZ.2.2; omega
  have hbA : ¬ s.heap.size ≤ b := by omega
  have gbp := hLI.2.2.2
  have gnn := hLI.1
  by_cases hz : nn ≤ 380
  · skip
    have hzz := hz
    refine lv_aload_n hx hb d_Law_law_92 rfl (lv_at hl 2 rfl) ?_
    refine lv_aload_n hx hb d_Law_law_93 rfl (lv_at hl 1 rfl) ?_
    refine lv_iload hx hb d_Law_law_94 (lv_at hl 0 rfl) ?_
    refine lv_iconst (v := iI 1) hx hb d_Law_law_96 rfl ?_
    refine ri_iadd hx hb d_Law_law_97 ?_
    refine ri_i (show ((i : Int)) + 1 = ((i + 1 : Nat) : Int) from by omega) ?_
    refine va_sld hx hb hXs hbl hbA hS (ix_in (i := i + 1) (by omega) (by omega)) d_Law_law_98 ?_
    rw [ix_cl (i := i + 1) (by omega)]
    refine lv_aload_n hx hb d_Law_law_99 rfl (lv_at hl 1 rfl) ?_
    refine lv_iload hx hb d_Law_law_100 (lv_at hl 0 rfl) ?_
    refine lv_iconst (v := iI 2) hx hb d_Law_law_102 rfl ?_
    refine ri_iadd hx hb d_Law_law_103 ?_
    refine ri_i (show ((i : Int)) + 2 = ((i + 2 : Nat) : Int) from by omega) ?_
    refine va_sld hx hb hXs hbl hbA hS (ix_in (i := i + 2) (by omega) (by omega)) d_Law_law_104 ?_
    rw [ix_cl (i := i + 2) (by omega)]
    refine lv_aload_n hx hb d_Law_law_105 rfl (lv_at hl 1 rfl) ?_
    refine lv_iload hx hb d_Law_law_106 (lv_at hl 0 rfl) ?_
    refine lv_iconst (v := iI 3) hx hb d_Law_law_108 rfl ?_
    refine ri_iadd hx hb d_Law_law_109 ?_
    refine ri_i (show ((i : Int)) + 3 = ((i + 3 : Nat) : Int) from by omega) ?_
    refine va_sld hx hb hXs hbl hbA hS (ix_in (i := i + 3) (by omega) (by omega)) d_Law_law_110 ?_
    rw [ix_cl (i := i + 3) (by omega)]
    refine lv_aload_n hx hb d_Law_law_111 rfl (lv_at hl 1 rfl) ?_
    refine lv_iload hx hb d_Law_law_112 (lv_at hl 0 rfl) ?_
    refine lv_iconst (v := iI 4) hx hb d_Law_law_114 rfl ?_
    refine ri_iadd hx hb d_Law_law_115 ?_
    refine ri_i (show ((i : Int)) + 4 = ((i + 4 : Nat) : Int) from by omega) ?_
    refine va_sld hx hb hXs hbl hbA hS (ix_in (i := i + 4) (by omega) (by omega)) d_Law_law_116 ?_
    rw [ix_cl (i := i + 4) (by omega)]
    refine lv_aload_n hx hb d_Law_law_117 rfl (lv_at hl 1 rfl) ?_
    refine lv_iload hx hb d_Law_law_118 (lv_at hl 0 rfl) ?_
    refine lv_iconst (v := iI 5) hx hb d_Law_law_120 rfl ?_
    refine ri_iadd hx hb d_Law_law_121 ?_
    refine ri_i (show ((i : Int)) + 5 = ((i + 5 : Nat) : Int) from by omega) ?_
    refine va_sld hx hb hXs hbl hbA hS (ix_in (i := i + 5) (by omega) (by omega)) d_Law_law_122 ?_
    rw [ix_cl (i := i + 5) (by omega)]
    refine lv_aload_n hx hb d_Law_law_123 rfl (lv_at hl 4 rfl) ?_
    refine t_call (t_runS (rest := []) hx hb (hml.trans hl.1.symm) hown hk hK k_Law_52 (ct_Law_feed l D tys aS hoff (ad 0) (ad 1) (ad 3) (ad 6) bp (ad 2) (cl 0) nn i1 bk f (xs (i + 1)) (xs (i + 2)) (xs (i + 3)) (xs (i + 4)) (xs (i + 5)) (ad 16) (cl 2) oF hJ hty (by omega)) (w_subP (is := [0, 1, 2, 56]) hP rfl) ((hD.sub [0, 1, 2, 56] rfl rfl).weaken (fun _ q _ h => hAS q.1 h)) (hZ.kept (hS.2.1 aS hZ.2.2 (fun h => hAS aS h rfl))) hN rfl rfl ⟨by decide, by decide, by show cells + 0 ≤ 601024; omega, by show slots + 0 ≤ 7293034; omega⟩ (Nat.le_of_ble_eq_true rfl) d_Law_law_124) hP hD hS [0, 1, 2, 56] rfl (fun w1 H locs hw hP hD hS => ?_)
    subst hw
    have hP : va_P D vwCl (LW ad cl aZ bZ eZ eR gR bp (nn + 20) i1 bk (ap20 f nn (xs (i + 1)) (xs (i + 2)) (xs (i + 3)) (xs (i + 4)) (xs (i + 5))) doff dsv dm dn off sv B E fa yr mn dy i2 cN eF gF rr fF (vp_updL oF 0 (lL (((nn + 20 : Nat) : Int)))) bp nn f off sv) H := hP
    have hD : va_D (fun q => s.heap.size ≤ q) (LW ad cl aZ bZ eZ eR gR bp (nn + 20) i1 bk (ap20 f nn (xs (i + 1)) (xs (i + 2)) (xs (i + 3)) (xs (i + 4)) (xs (i + 5))) doff dsv dm dn off sv B E fa yr mn dy i2 cN eF gF rr fF (vp_updL oF 0 (lL (((nn + 20 : Nat) : Int)))) bp nn f off sv) := hD
    refine lv_istore (lv' := [(5, .int (iI 0)), (4, .int (iI ((i : Int)))), (0, .ref b), (1, .ref (ad 0)), (2, .ref (ad 7)), (3, .ref (ad 16))]) hx hb d_Law_law_127 hl (by decide) rfl (fun ls hl => ?_)
    refine lv_aload_n hx hb d_Law_law_129 rfl (lv_at hl 4 rfl) ?_
    refine lv_aload_n hx hb d_Law_law_130 rfl (lv_at hl 2 rfl) ?_
    refine lv_iload hx hb d_Law_law_131 (lv_at hl 1 rfl) ?_
    refine lv_iconst (v := iI 1) hx hb d_Law_law_133 rfl ?_
    refine ri_iadd hx hb d_Law_law_134 ?_
    refine ri_i (show ((i : Int)) + 1 = ((i + 1 : Nat) : Int) from by omega) ?_
    refine va_sld hx hb hXs hbl hbA hS (ix_in (i := i + 1) (by omega) (by omega)) d_Law_law_135 ?_
    rw [ix_cl (i := i + 1) (by omega)]
    refine lv_aload_n hx hb d_Law_law_136 rfl (lv_at hl 2 rfl) ?_
    refine lv_iload hx hb d_Law_law_137 (lv_at hl 1 rfl) ?_
    refine lv_iconst (v := iI 2) hx hb d_Law_law_139 rfl ?_
    refine ri_iadd hx hb d_Law_law_140 ?_
    refine ri_i (show ((i : Int)) + 2 = ((i + 2 : Nat) : Int) from by omega) ?_
    refine va_sld hx hb hXs hbl hbA hS (ix_in (i := i + 2) (by omega) (by omega)) d_Law_law_141 ?_
    rw [ix_cl (i := i + 2) (by omega)]
    refine lv_aload_n hx hb d_Law_law_142 rfl (lv_at hl 2 rfl) ?_
    refine lv_iload hx hb d_Law_law_143 (lv_at hl 1 rfl) ?_
    refine lv_iconst (v := iI 3) hx hb d_Law_law_145 rfl ?_
    refine ri_iadd hx hb d_Law_law_146 ?_
    refine ri_i (show ((i : Int)) + 3 = ((i + 3 : Nat) : Int) from by omega) ?_
    refine va_sld hx hb hXs hbl hbA hS (ix_in (i := i + 3) (by omega) (by omega)) d_Law_law_147 ?_
    rw [ix_cl (i := i + 3) (by omega)]
    refine lv_aload_n hx hb d_Law_law_148 rfl (lv_at hl 2 rfl) ?_
    refine lv_iload hx hb d_Law_law_149 (lv_at hl 1 rfl) ?_
    refine lv_iconst (v := iI 4) hx hb d_Law_law_151 rfl ?_
    refine ri_iadd hx hb d_Law_law_152 ?_
    refine ri_i (show ((i : Int)) + 4 = ((i + 4 : Nat) : Int) from by omega) ?_
    refine va_sld hx hb hXs hbl hbA hS (ix_in (i := i + 4) (by omega) (by omega)) d_Law_law_153 ?_
    rw [ix_cl (i := i + 4) (by omega)]
    refine lv_aload_n hx hb d_Law_law_154 rfl (lv_at hl 2 rfl) ?_
    refine lv_iload hx hb d_Law_law_155 (lv_at hl 1 rfl) ?_
    refine lv_iconst (v := iI 5) hx hb d_Law_law_157 rfl ?_
    refine ri_iadd hx hb d_Law_law_158 ?_
    refine ri_i (show ((i : Int)) + 5 = ((i + 5 : Nat) : Int) from by omega) ?_
    refine va_sld hx hb hXs hbl hbA hS (ix_in (i := i + 5) (by omega) (by omega)) d_Law_law_159 ?_
    rw [ix_cl (i := i + 5) (by omega)]
    refine m_callV (rest := []) (q0 := 0) hx hb (hml.trans hl.1.symm) hown hk hK k_Law_57 (ct_Ref_feed l D tys (ad 7) (ad 8) (ad 9) (ad 10) (ad 11) (ad 12) (ad 13) (ad 14) (ad 15) fa nn bp yr mn dy i2 (cl 0) f (xs (i + 1)) (xs (i + 2)) (xs (i + 3)) (xs (i + 4)) (xs (i + 5)) hty (by omega)) hP hD hS [31, 32] rfl rfl rfl rfl rfl rfl rfl ⟨rfl, rfl⟩ ⟨by decide, by decide, by show cells + 0 ≤ 601024; omega, by show slots + 0 ≤ 7293034; omega⟩ (Nat.le_of_ble_eq_true rfl) d_Law_law_160 (fun H locs hP hD hS => ?_)
    have hP : va_P D vwCl (LW ad cl aZ bZ eZ eR gR bp (nn + 20) i1 bk (ap20 f nn (xs (i + 1)) (xs (i + 2)) (xs (i + 3)) (xs (i + 4)) (xs (i + 5))) doff dsv dm dn off sv B E 0 yr mn dy i2 cN eF gF rr fF (vp_updL oF 0 (lL (((nn + 20 : Nat) : Int)))) bp (nn + 20) (ap20 f nn (xs (i + 1)) (xs (i + 2)) (xs (i + 3)) (xs (i + 4)) (xs (i + 5))) off sv) H := hP
    have hD : va_D (fun q => s.heap.size ≤ q) (LW ad cl aZ bZ eZ eR gR bp (nn + 20) i1 bk (ap20 f nn (xs (i + 1)) (xs (i + 2)) (xs (i + 3)) (xs (i + 4)) (xs (i + 5))) doff dsv dm dn off sv B E 0 yr mn dy i2 cN eF gF rr fF (vp_updL oF 0 (lL (((nn + 20 : Nat) : Int)))) bp (nn + 20) (ap20 f nn (xs (i + 1)) (xs (i + 2)) (xs (i + 3)) (xs (i + 4)) (xs (i + 5))) off sv) := hD
    refine lv_istore (lv' := [(6, .int (iI ((nn : Int) + 20))), (5, .int (iI 0)), (4, .int (iI ((i : Int)))), (0, .ref b), (1, .ref (ad 0)), (2, .ref (ad 7)), (3, .ref (ad 16))]) hx hb d_Law_law_163 hl (by decide) rfl (fun ls hl => ?_)
    refine lv_aload_n hx hb d_Law_law_165 rfl (lv_at hl 5 rfl) ?_
    refine p_callV (rest := []) (q0 := 0) hx hb (hml.trans hl.1.symm) hown hk hK k_Law_58 (ct_Ref_thrown l D tys (ad 7) (ad 8) (ad 9) (ad 10) (ad 11) (ad 12) (ad 13) (ad 14) (ad 15) 0 (nn + 20) bp yr mn dy i2 ) (w_subP (is := [31]) hP rfl) (w_subD (is := [31]) hD rfl rfl) rfl rfl rfl rfl ⟨rfl, rfl⟩ ⟨by decide, by decide, by show cells + 0 ≤ 601024; omega, by show slots + 0 ≤ 7293034; omega⟩ (Nat.le_of_ble_eq_true rfl) d_Law_law_166 ?_
    refine lv_iload hx hb d_Law_law_169 (lv_at hl 1 rfl) ?_
    refine ri_icmp_eq (tgt := 176) hx hb d_Law_law_171 (by decide) (fun h171 => ?_) (fun h171 => ?_)
    · refine lv_iload hx hb d_Law_law_176 (lv_at hl 1 rfl) ?_
      refine ri_if_ne (tgt := 193) hx hb d_Law_law_178 (by decide) (fun h178 => ?_) (fun h178 => ?_)
      · exfalso; exact h178 rfl
      · refine lv_aload_n hx hb d_Law_law_181 rfl (lv_at hl 6 rfl) ?_
        refine lv_iconst (v := iI 0) hx hb d_Law_law_182 rfl ?_
        refine ri_i (show (0 : Int) = ((0 : Nat) : Int) from rfl) ?_
        refine g_lald (i := 0) hx hb hK hP 56 2 rfl hJ d_Law_law_183 ?_ (by decide) (by decide)
        refine ri_v (y := .long (lL (((nn + 20 : Nat) : Int)))) rfl ?_
        refine lv_iload hx hb d_Law_law_184 (lv_at hl 0 rfl) ?_
        refine ri_i2l hx hb d_Law_law_186 ?_
        refine ri_lcmp_eq (tgt := 193) hx hb d_Law_law_187 d_Law_law_188 (by decide) (fun h187 => ?_) (fun h187 => ?_)
        · refine lv_goto (tgt := 866) hx hb d_Law_law_193 (by decide) ?_
          refine W.widen (k := cells + 2) (n := slots + 12) (by omega) (by omega) ?_
          exact kk _ (nn + 20) _ _ (ap20 f nn (xs (i + 1)) (xs (i + 2)) (xs (i + 3)) (xs (i + 4)) (xs (i + 5))) _ _ _ _ _ _ _ _ 0 _ _ _ _ _ _ _ _ _ (vp_updL oF 0 (lL (((nn + 20 : Nat) : Int)))) H locs ls ⟨by omega, hLI.2⟩ hP hD hS (lv_sub hl [2, 3, 4, 5, 6] rfl)
        · exfalso; omega
    · exfalso; exact h171 rfl
  · skip
    refine lv_aload_n hx hb d_Law_law_92 rfl (lv_at hl 2 rfl) ?_
    refine lv_aload_n hx hb d_Law_law_93 rfl (lv_at hl 1 rfl) ?_
    refine lv_iload hx hb d_Law_law_94 (lv_at hl 0 rfl) ?_
    refine lv_iconst (v := iI 1) hx hb d_Law_law_96 rfl ?_
    refine ri_iadd hx hb d_Law_law_97 ?_
    refine ri_i (show ((i : Int)) + 1 = ((i + 1 : Nat) : Int) from by omega) ?_
    refine va_sld hx hb hXs hbl hbA hS (ix_in (i := i + 1) (by omega) (by omega)) d_Law_law_98 ?_
    rw [ix_cl (i := i + 1) (by omega)]
    refine lv_aload_n hx hb d_Law_law_99 rfl (lv_at hl 1 rfl) ?_
    refine lv_iload hx hb d_Law_law_100 (lv_at hl 0 rfl) ?_
    refine lv_iconst (v := iI 2) hx hb d_Law_law_102 rfl ?_
    refine ri_iadd hx hb d_Law_law_103 ?_
    refine ri_i (show ((i : Int)) + 2 = ((i + 2 : Nat) : Int) from by omega) ?_
    refine va_sld hx hb hXs hbl hbA hS (ix_in (i := i + 2) (by omega) (by omega)) d_Law_law_104 ?_
    rw [ix_cl (i := i + 2) (by omega)]
    refine lv_aload_n hx hb d_Law_law_105 rfl (lv_at hl 1 rfl) ?_
    refine lv_iload hx hb d_Law_law_106 (lv_at hl 0 rfl) ?_
    refine lv_iconst (v := iI 3) hx hb d_Law_law_108 rfl ?_
    refine ri_iadd hx hb d_Law_law_109 ?_
    refine ri_i (show ((i : Int)) + 3 = ((i + 3 : Nat) : Int) from by omega) ?_
    refine va_sld hx hb hXs hbl hbA hS (ix_in (i := i + 3) (by omega) (by omega)) d_Law_law_110 ?_
    rw [ix_cl (i := i + 3) (by omega)]
    refine lv_aload_n hx hb d_Law_law_111 rfl (lv_at hl 1 rfl) ?_
    refine lv_iload hx hb d_Law_law_112 (lv_at hl 0 rfl) ?_
    refine lv_iconst (v := iI 4) hx hb d_Law_law_114 rfl ?_
    refine ri_iadd hx hb d_Law_law_115 ?_
    refine ri_i (show ((i : Int)) + 4 = ((i + 4 : Nat) : Int) from by omega) ?_
    refine va_sld hx hb hXs hbl hbA hS (ix_in (i := i + 4) (by omega) (by omega)) d_Law_law_116 ?_
    rw [ix_cl (i := i + 4) (by omega)]
    refine lv_aload_n hx hb d_Law_law_117 rfl (lv_at hl 1 rfl) ?_
    refine lv_iload hx hb d_Law_law_118 (lv_at hl 0 rfl) ?_
    refine lv_iconst (v := iI 5) hx hb d_Law_law_120 rfl ?_
    refine ri_iadd hx hb d_Law_law_121 ?_
    refine ri_i (show ((i : Int)) + 5 = ((i + 5 : Nat) : Int) from by omega) ?_
    refine va_sld hx hb hXs hbl hbA hS (ix_in (i := i + 5) (by omega) (by omega)) d_Law_law_122 ?_
    rw [ix_cl (i := i + 5) (by omega)]
    refine lv_aload_n hx hb d_Law_law_123 rfl (lv_at hl 4 rfl) ?_
    refine t_call (t_runS (rest := []) hx hb (hml.trans hl.1.symm) hown hk hK k_Law_52 (ct_Law_feed_x l D tys aS hoff (ad 0) (ad 1) (ad 3) (ad 6) bp (ad 2) (cl 0) nn i1 bk f (xs (i + 1)) (xs (i + 2)) (xs (i + 3)) (xs (i + 4)) (xs (i + 5)) (ad 16) (by omega) (by omega)) (w_subP (is := [0, 1, 2]) hP rfl) ((hD.sub [0, 1, 2] rfl rfl).weaken (fun _ q _ h => hAS q.1 h)) (hZ.kept (hS.2.1 aS hZ.2.2 (fun h => hAS aS h rfl))) hN rfl rfl ⟨by decide, by decide, by show cells + 1 ≤ 601024; omega, by show slots + 6 ≤ 7293034; omega⟩ (Nat.le_of_ble_eq_true rfl) d_Law_law_124) hP hD hS [0, 1, 2] rfl (fun w1 H locs hw hP hD hS => ?_)
    subst hw
    have hP : va_P D vwCl (LW ad cl aZ bZ eZ eR gR bp nn i1 bk f doff dsv dm dn off sv B E fa yr mn dy i2 cN eF gF rr fF oF bp nn f off sv) H := hP
    have hD : va_D (fun q => s.heap.size ≤ q) (LW ad cl aZ bZ eZ eR gR bp nn i1 bk f doff dsv dm dn off sv B E fa yr mn dy i2 cN eF gF rr fF oF bp nn f off sv) := hD
    refine lv_istore (lv' := [(5, .int (iI 1)), (4, .int (iI ((i : Int)))), (0, .ref b), (1, .ref (ad 0)), (2, .ref (ad 7)), (3, .ref (ad 16))]) hx hb d_Law_law_127 hl (by decide) rfl (fun ls hl => ?_)
    refine lv_aload_n hx hb d_Law_law_129 rfl (lv_at hl 4 rfl) ?_
    refine lv_aload_n hx hb d_Law_law_130 rfl (lv_at hl 2 rfl) ?_
    refine lv_iload hx hb d_Law_law_131 (lv_at hl 1 rfl) ?_
    refine lv_iconst (v := iI 1) hx hb d_Law_law_133 rfl ?_
    refine ri_iadd hx hb d_Law_law_134 ?_
    refine ri_i (show ((i : Int)) + 1 = ((i + 1 : Nat) : Int) from by omega) ?_
    refine va_sld hx hb hXs hbl hbA hS (ix_in (i := i + 1) (by omega) (by omega)) d_Law_law_135 ?_
    rw [ix_cl (i := i + 1) (by omega)]
    refine lv_aload_n hx hb d_Law_law_136 rfl (lv_at hl 2 rfl) ?_
    refine lv_iload hx hb d_Law_law_137 (lv_at hl 1 rfl) ?_
    refine lv_iconst (v := iI 2) hx hb d_Law_law_139 rfl ?_
    refine ri_iadd hx hb d_Law_law_140 ?_
    refine ri_i (show ((i : Int)) + 2 = ((i + 2 : Nat) : Int) from by omega) ?_
    refine va_sld hx hb hXs hbl hbA hS (ix_in (i := i + 2) (by omega) (by omega)) d_Law_law_141 ?_
    rw [ix_cl (i := i + 2) (by omega)]
    refine lv_aload_n hx hb d_Law_law_142 rfl (lv_at hl 2 rfl) ?_
    refine lv_iload hx hb d_Law_law_143 (lv_at hl 1 rfl) ?_
    refine lv_iconst (v := iI 3) hx hb d_Law_law_145 rfl ?_
    refine ri_iadd hx hb d_Law_law_146 ?_
    refine ri_i (show ((i : Int)) + 3 = ((i + 3 : Nat) : Int) from by omega) ?_
    refine va_sld hx hb hXs hbl hbA hS (ix_in (i := i + 3) (by omega) (by omega)) d_Law_law_147 ?_
    rw [ix_cl (i := i + 3) (by omega)]
    refine lv_aload_n hx hb d_Law_law_148 rfl (lv_at hl 2 rfl) ?_
    refine lv_iload hx hb d_Law_law_149 (lv_at hl 1 rfl) ?_
    refine lv_iconst (v := iI 4) hx hb d_Law_law_151 rfl ?_
    refine ri_iadd hx hb d_Law_law_152 ?_
    refine ri_i (show ((i : Int)) + 4 = ((i + 4 : Nat) : Int) from by omega) ?_
    refine va_sld hx hb hXs hbl hbA hS (ix_in (i := i + 4) (by omega) (by omega)) d_Law_law_153 ?_
    rw [ix_cl (i := i + 4) (by omega)]
    refine lv_aload_n hx hb d_Law_law_154 rfl (lv_at hl 2 rfl) ?_
    refine lv_iload hx hb d_Law_law_155 (lv_at hl 1 rfl) ?_
    refine lv_iconst (v := iI 5) hx hb d_Law_law_157 rfl ?_
    refine ri_iadd hx hb d_Law_law_158 ?_
    refine ri_i (show ((i : Int)) + 5 = ((i + 5 : Nat) : Int) from by omega) ?_
    refine va_sld hx hb hXs hbl hbA hS (ix_in (i := i + 5) (by omega) (by omega)) d_Law_law_159 ?_
    rw [ix_cl (i := i + 5) (by omega)]
    refine m_callV (rest := []) (q0 := 0) hx hb (hml.trans hl.1.symm) hown hk hK k_Law_57 (ct_Ref_feed_b l D tys (ad 7) (ad 8) (ad 9) (ad 10) (ad 11) (ad 12) (ad 13) (ad 14) (ad 15) fa nn bp yr mn dy i2 (xs (i + 1)) (xs (i + 2)) (xs (i + 3)) (xs (i + 4)) (xs (i + 5)) (by omega) (by omega)) hP hD hS [31] rfl rfl rfl rfl rfl rfl rfl ⟨rfl, rfl⟩ ⟨by decide, by decide, by show cells + 1 + 0 ≤ 601024; omega, by show slots + 6 + 0 ≤ 7293034; omega⟩ (Nat.le_of_ble_eq_true rfl) d_Law_law_160 (fun H locs hP hD hS => ?_)
    have hP : va_P D vwCl (LW ad cl aZ bZ eZ eR gR bp nn i1 bk f doff dsv dm dn off sv B E 1 yr mn dy i2 cN eF gF rr fF oF bp nn f off sv) H := hP
    have hD : va_D (fun q => s.heap.size ≤ q) (LW ad cl aZ bZ eZ eR gR bp nn i1 bk f doff dsv dm dn off sv B E 1 yr mn dy i2 cN eF gF rr fF oF bp nn f off sv) := hD
    refine lv_istore (lv' := [(6, .int (iI 0)), (5, .int (iI 1)), (4, .int (iI ((i : Int)))), (0, .ref b), (1, .ref (ad 0)), (2, .ref (ad 7)), (3, .ref (ad 16))]) hx hb d_Law_law_163 hl (by decide) rfl (fun ls hl => ?_)
    refine lv_aload_n hx hb d_Law_law_165 rfl (lv_at hl 5 rfl) ?_
    refine p_callV (rest := []) (q0 := 0) hx hb (hml.trans hl.1.symm) hown hk hK k_Law_58 (ct_Ref_thrown l D tys (ad 7) (ad 8) (ad 9) (ad 10) (ad 11) (ad 12) (ad 13) (ad 14) (ad 15) 1 nn bp yr mn dy i2 ) (w_subP (is := [31]) hP rfl) (w_subD (is := [31]) hD rfl rfl) rfl rfl rfl rfl ⟨rfl, rfl⟩ ⟨by decide, by decide, by show cells + 1 + 0 ≤ 601024; omega, by show slots + 6 + 0 ≤ 7293034; omega⟩ (Nat.le_of_ble_eq_true rfl) d_Law_law_166 ?_
    refine lv_iload hx hb d_Law_law_169 (lv_at hl 1 rfl) ?_
    refine ri_icmp_eq (tgt := 176) hx hb d_Law_law_171 (by decide) (fun h171 => ?_) (fun h171 => ?_)
    · refine lv_iload hx hb d_Law_law_176 (lv_at hl 1 rfl) ?_
      refine ri_if_ne (tgt := 193) hx hb d_Law_law_178 (by decide) (fun h178 => ?_) (fun h178 => ?_)
      · refine lv_goto (tgt := 866) hx hb d_Law_law_193 (by decide) ?_
        refine W.widen (k := cells + 2) (n := slots + 12) (by omega) (by omega) ?_
        exact kk _ _ _ _ _ _ _ _ _ _ _ _ _ 1 _ _ _ _ _ _ _ _ _ _ H locs ls hLI hP hD hS (lv_sub hl [2, 3, 4, 5, 6] rfl)
      · exfalso; omega
    · exfalso; exact h171 rfl
set_option maxHeartbeats 4000000 in
set_option maxRecDepth 100000 in
theorem st_end {p : Program} {l : Launch} {e : Env} {s : State} {m : MethodId} {below : List Frame} {meth : Method} {c : Code} {b L : Nat} {xs : Nat → Int32} {D : va_G} {tys : List (ClassId × FieldType)} {aS : Nat} {ad : Nat → Nat} {cl : Nat → ClassId} {aZ : Nat → Nat} {bZ : Nat → Nat} {eZ : Nat → Nat} {eR : Nat → Nat} {gR : Nat → Nat} {bp : Int} {nn : Nat} {i1 : Nat} {bk : Bool} {f : Nat → Int32} {doff : Int} {dsv : Int} {dm : RU} {dn : RU} {off : Nat → Int} {sv : Nat → Int} {B : Nat → RU} {E : Nat → RU} {fa : Int} {yr : Int} {mn : Int} {dy : Int} {i2 : Nat} {cN : Nat → Nat} {eF : Nat → Nat → Int} {gF : Nat → Nat → Bool} {rr : Nat → Int32} {fF : Nat → Int64} {oF : Nat → Int64} {i cells slots : Nat} {H : Heap} {locs : List Loc} {ls : Array Slot} {Q : State → Prop} (C0 : LC p l s m meth c b L xs D tys cl aS) (hLI : LI bp nn off sv B E cN eF gF) (hi : i + 6 ≤ L) (hcl : cells ≤ 600000) (hsl : slots ≤ 7000000) (hP : va_P D vwCl (LW ad cl aZ bZ eZ eR gR bp nn i1 bk f doff dsv dm dn off sv B E fa yr mn dy i2 cN eF gF rr fF oF bp nn f off sv) H) (hD : va_D (fun q => s.heap.size ≤ q) (LW ad cl aZ bZ eZ eR gR bp nn i1 bk f doff dsv dm dn off sv B E fa yr mn dy i2 cN eF gF rr fF oF bp nn f off sv)) (hS : va_S (fun q => s.heap.size ≤ q) s.heap H locs) (hl : lv_has ls 8 [(4, .int (iI (i : Int))), (0, .ref b), (1, .ref (ad 0)), (2, .ref (ad 7)), (3, .ref (ad 16))]) (kk : LK p l e s m below meth c b D ad cl aZ bZ eZ eR gR i (cells + 2) (slots + 12) Q) : W p l e room_1 s m #[.ref b] below meth c H locs cells slots Q (F0 m 196 ls []) := by
  obtain ⟨hx, hb, hr, hml, hown, hlk, hk, hK, hZ, hN, hXs, hbl, hL, hoff, hty, hI, hJ, hG, htz, hJJ, hGG⟩ := C0
  have hAS : ∀ q, s.heap.size ≤ q → q ≠ aS := fun q h => by have := hZ.2.2; omega
  have hbA : ¬ s.heap.size ≤ b := by omega
  have gbp := hLI.2.2.2
  have gnn := hLI.1
  by_cases hz : 0 ≤ (xs (i + 1)).toInt ∧ (xs (i + 1)).toInt ≤ nn
  · skip
    obtain ⟨zi, hzi⟩ : ∃ zi : Nat, (xs (i + 1)).toInt = (zi : Int) := ⟨((xs (i + 1)).toInt).toNat, by omega⟩
    refine lv_aload_n hx hb d_Law_law_196 rfl (lv_at hl 2 rfl) ?_
    refine lv_aload_n hx hb d_Law_law_197 rfl (lv_at hl 1 rfl) ?_
    refine lv_iload hx hb d_Law_law_198 (lv_at hl 0 rfl) ?_
    refine lv_iconst (v := iI 1) hx hb d_Law_law_200 rfl ?_
    refine ri_iadd hx hb d_Law_law_201 ?_
    refine ri_i (show ((i : Int)) + 1 = ((i + 1 : Nat) : Int) from by omega) ?_
    refine va_sld hx hb hXs hbl hbA hS (ix_in (i := i + 1) (by omega) (by omega)) d_Law_law_202 ?_
    rw [ix_cl (i := i + 1) (by omega)]
    have g1 := i32_b (xs (i + 1))
    refine ri_v (congrArg Value.int (iI_of (xs (i + 1))).symm) ?_
    refine ri_i hzi ?_
    refine lv_aload_n hx hb d_Law_law_203 rfl (lv_at hl 4 rfl) ?_
    refine t_call (t_runS (rest := []) hx hb (hml.trans hl.1.symm) hown hk hK k_Law_62 (ct_Law_end l D tys aS hoff (ad 0) (ad 1) (ad 3) (ad 6) bp (ad 2) (cl 0) nn i1 bk f zi (ad 16) (cl 2) oF hJ (by omega) (by omega)) (w_subP (is := [0, 1, 2, 56]) hP rfl) ((hD.sub [0, 1, 2, 56] rfl rfl).weaken (fun _ q _ h => hAS q.1 h)) (hZ.kept (hS.2.1 aS hZ.2.2 (fun h => hAS aS h rfl))) hN rfl rfl ⟨by decide, by decide, by show cells + 0 ≤ 601024; omega, by show slots + 0 ≤ 7293034; omega⟩ (Nat.le_of_ble_eq_true rfl) d_Law_law_204) hP hD hS [0, 1, 2, 56] rfl (fun w1 H locs hw hP hD hS => ?_)
    subst hw
    have hP : va_P D vwCl (LW ad cl aZ bZ eZ eR gR bp zi i1 bk f doff dsv dm dn off sv B E fa yr mn dy i2 cN eF gF rr fF (vp_updL oF 0 (lL ((zi : Int)))) bp nn f off sv) H := hP
    have hD : va_D (fun q => s.heap.size ≤ q) (LW ad cl aZ bZ eZ eR gR bp zi i1 bk f doff dsv dm dn off sv B E fa yr mn dy i2 cN eF gF rr fF (vp_updL oF 0 (lL ((zi : Int)))) bp nn f off sv) := hD
    refine lv_istore (lv' := [(5, .int (iI 0)), (4, .int (iI ((i : Int)))), (0, .ref b), (1, .ref (ad 0)), (2, .ref (ad 7)), (3, .ref (ad 16))]) hx hb d_Law_law_207 hl (by decide) rfl (fun ls hl => ?_)
    refine lv_aload_n hx hb d_Law_law_209 rfl (lv_at hl 4 rfl) ?_
    refine lv_aload_n hx hb d_Law_law_210 rfl (lv_at hl 2 rfl) ?_
    refine lv_iload hx hb d_Law_law_211 (lv_at hl 1 rfl) ?_
    refine lv_iconst (v := iI 1) hx hb d_Law_law_213 rfl ?_
    refine ri_iadd hx hb d_Law_law_214 ?_
    refine ri_i (show ((i : Int)) + 1 = ((i + 1 : Nat) : Int) from by omega) ?_
    refine va_sld hx hb hXs hbl hbA hS (ix_in (i := i + 1) (by omega) (by omega)) d_Law_law_215 ?_
    rw [ix_cl (i := i + 1) (by omega)]
    have g1 := i32_b (xs (i + 1))
    refine ri_v (congrArg Value.int (iI_of (xs (i + 1))).symm) ?_
    refine ri_i hzi ?_
    refine m_callV (rest := []) (q0 := 0) hx hb (hml.trans hl.1.symm) hown hk hK k_Law_65 (ct_Ref_end l D tys (ad 7) (ad 8) (ad 9) (ad 10) (ad 11) (ad 12) (ad 13) (ad 14) (ad 15) fa nn bp yr mn dy i2 ((zi : Int)) (by omega) (by omega) (by omega)) hP hD hS [31] rfl rfl rfl rfl rfl rfl rfl ⟨rfl, rfl⟩ ⟨by decide, by decide, by show cells + 0 ≤ 601024; omega, by show slots + 0 ≤ 7293034; omega⟩ (Nat.le_of_ble_eq_true rfl) d_Law_law_216 (fun H locs hP hD hS => ?_)
    have hP : va_P D vwCl (LW ad cl aZ bZ eZ eR gR bp zi i1 bk f doff dsv dm dn off sv B E 0 yr mn dy i2 cN eF gF rr fF (vp_updL oF 0 (lL ((zi : Int)))) bp zi f off sv) H := hP
    have hD : va_D (fun q => s.heap.size ≤ q) (LW ad cl aZ bZ eZ eR gR bp zi i1 bk f doff dsv dm dn off sv B E 0 yr mn dy i2 cN eF gF rr fF (vp_updL oF 0 (lL ((zi : Int)))) bp zi f off sv) := hD
    refine lv_istore (lv' := [(6, .int (iI ((zi : Int)))), (5, .int (iI 0)), (4, .int (iI ((i : Int)))), (0, .ref b), (1, .ref (ad 0)), (2, .ref (ad 7)), (3, .ref (ad 16))]) hx hb d_Law_law_219 hl (by decide) rfl (fun ls hl => ?_)
    refine lv_aload_n hx hb d_Law_law_221 rfl (lv_at hl 5 rfl) ?_
    refine p_callV (rest := []) (q0 := 0) hx hb (hml.trans hl.1.symm) hown hk hK k_Law_58 (ct_Ref_thrown l D tys (ad 7) (ad 8) (ad 9) (ad 10) (ad 11) (ad 12) (ad 13) (ad 14) (ad 15) 0 zi bp yr mn dy i2 ) (w_subP (is := [31]) hP rfl) (w_subD (is := [31]) hD rfl rfl) rfl rfl rfl rfl ⟨rfl, rfl⟩ ⟨by decide, by decide, by show cells + 0 ≤ 601024; omega, by show slots + 0 ≤ 7293034; omega⟩ (Nat.le_of_ble_eq_true rfl) d_Law_law_222 ?_
    refine lv_iload hx hb d_Law_law_225 (lv_at hl 1 rfl) ?_
    refine ri_icmp_eq (tgt := 232) hx hb d_Law_law_227 (by decide) (fun h227 => ?_) (fun h227 => ?_)
    · refine lv_iload hx hb d_Law_law_232 (lv_at hl 1 rfl) ?_
      refine ri_if_ne (tgt := 249) hx hb d_Law_law_234 (by decide) (fun h234 => ?_) (fun h234 => ?_)
      · exfalso; exact h234 rfl
      · refine lv_aload_n hx hb d_Law_law_237 rfl (lv_at hl 6 rfl) ?_
        refine lv_iconst (v := iI 0) hx hb d_Law_law_238 rfl ?_
        refine ri_i (show (0 : Int) = ((0 : Nat) : Int) from rfl) ?_
        refine g_lald (i := 0) hx hb hK hP 56 2 rfl hJ d_Law_law_239 ?_ (by decide) (by decide)
        refine ri_v (y := .long (lL ((zi : Int)))) rfl ?_
        refine lv_iload hx hb d_Law_law_240 (lv_at hl 0 rfl) ?_
        refine ri_i2l hx hb d_Law_law_242 ?_
        refine ri_lcmp_eq (tgt := 249) hx hb d_Law_law_243 d_Law_law_244 (by decide) (fun h243 => ?_) (fun h243 => ?_)
        · refine lv_goto (tgt := 866) hx hb d_Law_law_249 (by decide) ?_
          refine W.widen (k := cells + 2) (n := slots + 12) (by omega) (by omega) ?_
          exact kk _ zi _ _ _ _ _ _ _ _ _ _ _ 0 _ _ _ _ _ _ _ _ _ (vp_updL oF 0 (lL ((zi : Int)))) H locs ls ⟨by omega, hLI.2⟩ hP hD hS (lv_sub hl [2, 3, 4, 5, 6] rfl)
        · exfalso; omega
    · exfalso; exact h227 rfl
  · skip
    refine lv_aload_n hx hb d_Law_law_196 rfl (lv_at hl 2 rfl) ?_
    refine lv_aload_n hx hb d_Law_law_197 rfl (lv_at hl 1 rfl) ?_
    refine lv_iload hx hb d_Law_law_198 (lv_at hl 0 rfl) ?_
    refine lv_iconst (v := iI 1) hx hb d_Law_law_200 rfl ?_
    refine ri_iadd hx hb d_Law_law_201 ?_
    refine ri_i (show ((i : Int)) + 1 = ((i + 1 : Nat) : Int) from by omega) ?_
    refine va_sld hx hb hXs hbl hbA hS (ix_in (i := i + 1) (by omega) (by omega)) d_Law_law_202 ?_
    rw [ix_cl (i := i + 1) (by omega)]
    have g1 := i32_b (xs (i + 1))
    refine ri_v (congrArg Value.int (iI_of (xs (i + 1))).symm) ?_
    refine lv_aload_n hx hb d_Law_law_203 rfl (lv_at hl 4 rfl) ?_
    refine t_call (t_runS (rest := []) hx hb (hml.trans hl.1.symm) hown hk hK k_Law_62 (ct_Law_end_x l D tys aS hoff (ad 0) (ad 1) (ad 3) (ad 6) bp (ad 2) (cl 0) nn i1 bk f ((xs (i + 1)).toInt) (ad 16) (by omega) (by omega) (by omega) (by omega)) (w_subP (is := [0, 1, 2]) hP rfl) ((hD.sub [0, 1, 2] rfl rfl).weaken (fun _ q _ h => hAS q.1 h)) (hZ.kept (hS.2.1 aS hZ.2.2 (fun h => hAS aS h rfl))) hN rfl rfl ⟨by decide, by decide, by show cells + 1 ≤ 601024; omega, by show slots + 6 ≤ 7293034; omega⟩ (Nat.le_of_ble_eq_true rfl) d_Law_law_204) hP hD hS [0, 1, 2] rfl (fun w1 H locs hw hP hD hS => ?_)
    subst hw
    have hP : va_P D vwCl (LW ad cl aZ bZ eZ eR gR bp nn i1 bk f doff dsv dm dn off sv B E fa yr mn dy i2 cN eF gF rr fF oF bp nn f off sv) H := hP
    have hD : va_D (fun q => s.heap.size ≤ q) (LW ad cl aZ bZ eZ eR gR bp nn i1 bk f doff dsv dm dn off sv B E fa yr mn dy i2 cN eF gF rr fF oF bp nn f off sv) := hD
    refine lv_istore (lv' := [(5, .int (iI 1)), (4, .int (iI ((i : Int)))), (0, .ref b), (1, .ref (ad 0)), (2, .ref (ad 7)), (3, .ref (ad 16))]) hx hb d_Law_law_207 hl (by decide) rfl (fun ls hl => ?_)
    refine lv_aload_n hx hb d_Law_law_209 rfl (lv_at hl 4 rfl) ?_
    refine lv_aload_n hx hb d_Law_law_210 rfl (lv_at hl 2 rfl) ?_
    refine lv_iload hx hb d_Law_law_211 (lv_at hl 1 rfl) ?_
    refine lv_iconst (v := iI 1) hx hb d_Law_law_213 rfl ?_
    refine ri_iadd hx hb d_Law_law_214 ?_
    refine ri_i (show ((i : Int)) + 1 = ((i + 1 : Nat) : Int) from by omega) ?_
    refine va_sld hx hb hXs hbl hbA hS (ix_in (i := i + 1) (by omega) (by omega)) d_Law_law_215 ?_
    rw [ix_cl (i := i + 1) (by omega)]
    have g1 := i32_b (xs (i + 1))
    refine ri_v (congrArg Value.int (iI_of (xs (i + 1))).symm) ?_
    refine m_callV (rest := []) (q0 := 0) hx hb (hml.trans hl.1.symm) hown hk hK k_Law_65 (ct_Ref_end_b l D tys (ad 7) (ad 8) (ad 9) (ad 10) (ad 11) (ad 12) (ad 13) (ad 14) (ad 15) fa nn bp yr mn dy i2 ((xs (i + 1)).toInt) (by omega) (by omega) (by omega) (by omega)) hP hD hS [31] rfl rfl rfl rfl rfl rfl rfl ⟨rfl, rfl⟩ ⟨by decide, by decide, by show cells + 1 + 0 ≤ 601024; omega, by show slots + 6 + 0 ≤ 7293034; omega⟩ (Nat.le_of_ble_eq_true rfl) d_Law_law_216 (fun H locs hP hD hS => ?_)
    have hP : va_P D vwCl (LW ad cl aZ bZ eZ eR gR bp nn i1 bk f doff dsv dm dn off sv B E 1 yr mn dy i2 cN eF gF rr fF oF bp nn f off sv) H := hP
    have hD : va_D (fun q => s.heap.size ≤ q) (LW ad cl aZ bZ eZ eR gR bp nn i1 bk f doff dsv dm dn off sv B E 1 yr mn dy i2 cN eF gF rr fF oF bp nn f off sv) := hD
    refine lv_istore (lv' := [(6, .int (iI 0)), (5, .int (iI 1)), (4, .int (iI ((i : Int)))), (0, .ref b), (1, .ref (ad 0)), (2, .ref (ad 7)), (3, .ref (ad 16))]) hx hb d_Law_law_219 hl (by decide) rfl (fun ls hl => ?_)
    refine lv_aload_n hx hb d_Law_law_221 rfl (lv_at hl 5 rfl) ?_
    refine p_callV (rest := []) (q0 := 0) hx hb (hml.trans hl.1.symm) hown hk hK k_Law_58 (ct_Ref_thrown l D tys (ad 7) (ad 8) (ad 9) (ad 10) (ad 11) (ad 12) (ad 13) (ad 14) (ad 15) 1 nn bp yr mn dy i2 ) (w_subP (is := [31]) hP rfl) (w_subD (is := [31]) hD rfl rfl) rfl rfl rfl rfl ⟨rfl, rfl⟩ ⟨by decide, by decide, by show cells + 1 + 0 ≤ 601024; omega, by show slots + 6 + 0 ≤ 7293034; omega⟩ (Nat.le_of_ble_eq_true rfl) d_Law_law_222 ?_
    refine lv_iload hx hb d_Law_law_225 (lv_at hl 1 rfl) ?_
    refine ri_icmp_eq (tgt := 232) hx hb d_Law_law_227 (by decide) (fun h227 => ?_) (fun h227 => ?_)
    · refine lv_iload hx hb d_Law_law_232 (lv_at hl 1 rfl) ?_
      refine ri_if_ne (tgt := 249) hx hb d_Law_law_234 (by decide) (fun h234 => ?_) (fun h234 => ?_)
      · refine lv_goto (tgt := 866) hx hb d_Law_law_249 (by decide) ?_
        refine W.widen (k := cells + 2) (n := slots + 12) (by omega) (by omega) ?_
        exact kk _ _ _ _ _ _ _ _ _ _ _ _ _ 1 _ _ _ _ _ _ _ _ _ _ H locs ls hLI hP hD hS (lv_sub hl [2, 3, 4, 5, 6] rfl)
      · exfalso; omega
    · exfalso; exact h227 rfl
