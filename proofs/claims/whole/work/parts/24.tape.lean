/-! Contracts: Tape's readers. By program (wip/whole/m_tape.py). -/
abbrev rm_Tape_nextByte : Room := { frames := 0, cells := 0, slots := 0, locals := 0 }
set_option maxHeartbeats 4000000 in
set_option maxRecDepth 100000 in
theorem ct_Tape_nextByte (l : Launch) (D : va_G) (tys : List (ClassId × FieldType)) (tp : Nat) (ba : Nat) (cB : ClassId) (nn : Nat) (i : Nat) (bk : Bool) (f : Nat → Int32) (hty : tys[0]? = some (cB, .byte)) (gn : nn ≤ 400) (gi : i ≤ nn) : pMet l y_Tape_nextByte c_Tape_nextByte 1 (some .int) rm_Tape_nextByte D tys [.ref tp] [(tp, .inr (1, [.ref ba, .int (iI ((nn : Int))), .int (iI ((i : Int))), .int (iI (bI bk))])), (ba, .inl (cB, 400, .inl f))] (.int (iI (zPk nn f i))) := by
  refine pMet_of (by decide) (Nat.le_of_ble_eq_true rfl) ?_
  intro p e s m below meth c hx hb hr hown hlk hml hk hK hP hD ls hl
  have hl : lv_has ls 1 [(0, .ref tp)] := hl
  refine lv_aload_n hx hb d_Tape_nextByte_0 rfl (lv_at hl 0 rfl) ?_
  refine g_get hx hb hk hown hK hP 0 rfl f_Tape_19 rfl d_Tape_nextByte_1 ?_
  refine ri_if_lt (tgt := 30) hx hb d_Tape_nextByte_4 (by decide) (fun h4 => ?_) (fun h4 => ?_)
  · exfalso; omega
  · refine lv_aload_n hx hb d_Tape_nextByte_7 rfl (lv_at hl 0 rfl) ?_
    refine g_get hx hb hk hown hK hP 0 rfl f_Tape_19 rfl d_Tape_nextByte_8 ?_
    refine lv_aload_n hx hb d_Tape_nextByte_11 rfl (lv_at hl 0 rfl) ?_
    refine g_get hx hb hk hown hK hP 0 rfl f_Tape_15 rfl d_Tape_nextByte_12 ?_
    refine ri_icmp_ge (tgt := 30) hx hb d_Tape_nextByte_15 (by decide) (fun h15 => ?_) (fun h15 => ?_)
    · refine lv_iconst (v := iI (-1)) hx hb d_Tape_nextByte_30 rfl ?_
      exact p_iret hx hb hr hlk d_Tape_nextByte_31 (by rw [zPk_out (by omega)])
    · refine lv_aload_n hx hb d_Tape_nextByte_18 rfl (lv_at hl 0 rfl) ?_
      refine g_get hx hb hk hown hK hP 0 rfl f_Tape_19 rfl d_Tape_nextByte_19 ?_
      refine lv_aload_n hx hb d_Tape_nextByte_22 rfl (lv_at hl 0 rfl) ?_
      refine g_get hx hb hk hown hK hP 0 rfl f_Tape_9 rfl d_Tape_nextByte_23 ?_
      refine va_alen hx hb hK hP 1 0 rfl hty (v := iI 400) (show Int32.ofNat 400 = iI 400 from by decide) d_Tape_nextByte_26 ?_
      refine ri_icmp_lt (tgt := 32) hx hb d_Tape_nextByte_27 (by decide) (fun h27 => ?_) (fun h27 => ?_)
      · refine lv_aload_n hx hb d_Tape_nextByte_32 rfl (lv_at hl 0 rfl) ?_
        refine g_get hx hb hk hown hK hP 0 rfl f_Tape_9 rfl d_Tape_nextByte_33 ?_
        refine lv_aload_n hx hb d_Tape_nextByte_36 rfl (lv_at hl 0 rfl) ?_
        refine g_get hx hb hk hown hK hP 0 rfl f_Tape_19 rfl d_Tape_nextByte_37 ?_
        refine g_bald (i := i) hx hb hK hP 1 0 rfl hty d_Tape_nextByte_40 ?_
        refine lv_sipush (v := iI 255) hx hb d_Tape_nextByte_41 (by decide) ?_
        refine lv_iand hx hb d_Tape_nextByte_44 ?_
        refine ri_v (tv_j _) ?_
        exact p_iret hx hb hr hlk d_Tape_nextByte_45 (by rw [zPk_in (by omega)])
      · exfalso; omega
abbrev rm_Tape_isDigit : Room := { frames := 0, cells := 0, slots := 0, locals := 0 }
set_option maxHeartbeats 4000000 in
set_option maxRecDepth 100000 in
theorem ct_Tape_isDigit (l : Launch) (D : va_G) (tys : List (ClassId × FieldType)) (x : Int) (gx1 : -2147483648 ≤ x) (gx2 : x ≤ 2147483647) : pMet l y_Tape_isDigit c_Tape_isDigit 1 (some .boolean) rm_Tape_isDigit D tys [.int (iI x)] [] (.int (iI (bI (zDigB x)))) := by
  refine pMet_of (by decide) (Nat.le_of_ble_eq_true rfl) ?_
  intro p e s m below meth c hx hb hr hown hlk hml hk hK hP hD ls hl
  have hl : lv_has ls 1 [(0, .int (iI x))] := hl
  refine lv_iload_n hx hb d_Tape_isDigit_0 rfl (lv_at hl 0 rfl) ?_
  refine lv_bipush (v := iI 48) hx hb d_Tape_isDigit_1 (by decide) ?_
  refine ri_icmp_lt (tgt := 16) hx hb d_Tape_isDigit_3 (by decide) (fun h3 => ?_) (fun h3 => ?_)
  · refine lv_iconst (v := iI 0) hx hb d_Tape_isDigit_16 rfl ?_
    exact p_zret hx hb hr hlk d_Tape_isDigit_17 (by unfold zDigB; first | (rw [decide_eq_false (show ¬ 48 ≤ x by omega)]; rfl) | (rw [decide_eq_true (show 48 ≤ x by omega), decide_eq_false (show ¬ x ≤ 57 by omega)]; rfl) | (rw [decide_eq_true (show 48 ≤ x by omega), decide_eq_true (show x ≤ 57 by omega)]; rfl)) (by omega)
  · refine lv_iload_n hx hb d_Tape_isDigit_6 rfl (lv_at hl 0 rfl) ?_
    refine lv_bipush (v := iI 57) hx hb d_Tape_isDigit_7 (by decide) ?_
    refine ri_icmp_gt (tgt := 16) hx hb d_Tape_isDigit_9 (by decide) (fun h9 => ?_) (fun h9 => ?_)
    · refine lv_iconst (v := iI 0) hx hb d_Tape_isDigit_16 rfl ?_
      exact p_zret hx hb hr hlk d_Tape_isDigit_17 (by unfold zDigB; first | (rw [decide_eq_false (show ¬ 48 ≤ x by omega)]; rfl) | (rw [decide_eq_true (show 48 ≤ x by omega), decide_eq_false (show ¬ x ≤ 57 by omega)]; rfl) | (rw [decide_eq_true (show 48 ≤ x by omega), decide_eq_true (show x ≤ 57 by omega)]; rfl)) (by omega)
    · refine lv_iconst (v := iI 1) hx hb d_Tape_isDigit_12 rfl ?_
      refine lv_goto (tgt := 17) hx hb d_Tape_isDigit_13 (by decide) ?_
      exact p_zret hx hb hr hlk d_Tape_isDigit_17 (by unfold zDigB; first | (rw [decide_eq_false (show ¬ 48 ≤ x by omega)]; rfl) | (rw [decide_eq_true (show 48 ≤ x by omega), decide_eq_false (show ¬ x ≤ 57 by omega)]; rfl) | (rw [decide_eq_true (show 48 ≤ x by omega), decide_eq_true (show x ≤ 57 by omega)]; rfl)) (by omega)
abbrev rm_Tape_readByte : Room := { frames := 1, cells := 0, slots := 0, locals := 20 }
set_option maxHeartbeats 4000000 in
set_option maxRecDepth 100000 in
theorem ct_Tape_readByte (l : Launch) (D : va_G) (tys : List (ClassId × FieldType)) (tp : Nat) (ba : Nat) (cB : ClassId) (nn : Nat) (i : Nat) (bk : Bool) (f : Nat → Int32) (w : Int) (hty : tys[0]? = some (cB, .byte)) (gn : nn ≤ 400) (gi : i ≤ nn) (gw1 : 0 ≤ w) (gw2 : w ≤ 65535) : mMet l y_Tape_readByte c_Tape_readByte 2 none rm_Tape_readByte D tys [.ref tp, .int (iI w)] [(tp, .inr (1, [.ref ba, .int (iI ((nn : Int))), .int (iI ((i : Int))), .int (iI (bI bk))])), (ba, .inl (cB, 400, .inl f))] none [(tp, .inr (1, [.ref ba, .int (iI ((nn : Int))), .int (iI ((((zByte nn f w (i, bk)).1 : Nat) : Int))), .int (iI (bI ((zByte nn f w (i, bk)).2)))])), (ba, .inl (cB, 400, .inl f))] := by
  refine mMet_of (by decide) (Nat.le_of_ble_eq_true rfl) ?_
  intro p e s m below meth c hx hb hr hown hlk hml hk hK hP hD hS ls hl
  have hl : lv_has ls 2 [(0, .ref tp), (1, .int (iI w))] := hl
  have gP := zPk_b nn f i
  cases bk with
  | true =>
    have hP : va_P D vwCl [(tp, .inr (1, [.ref ba, .int (iI ((nn : Int))), .int (iI ((i : Int))), .int (iI 1)])), (ba, .inl (cB, 400, .inl f))] s.heap := hP
    have hD : va_D (wA [(tp, .inr (1, [.ref ba, .int (iI ((nn : Int))), .int (iI ((i : Int))), .int (iI (bI true))])), (ba, .inl (cB, 400, .inl f))]) [(tp, .inr (1, [.ref ba, .int (iI ((nn : Int))), .int (iI ((i : Int))), .int (iI 1)])), (ba, .inl (cB, 400, .inl f))] := hD
    refine lv_aload_n hx hb d_Tape_readByte_0 rfl (lv_at hl 0 rfl) ?_
    refine g_get hx hb hk hown hK hP 0 rfl f_Tape_22 rfl d_Tape_readByte_1 ?_
    refine ri_if_eq (tgt := 8) hx hb d_Tape_readByte_4 (by decide) (fun h4 => ?_) (fun h4 => ?_)
    · exfalso; omega
    · exact m_vret hx hb hr hlk hP hS d_Tape_readByte_7 (by rw [zByte_brk nn f w (z := (i, true)) rfl]; rfl)
  | false =>
    have hP : va_P D vwCl [(tp, .inr (1, [.ref ba, .int (iI ((nn : Int))), .int (iI ((i : Int))), .int (iI 0)])), (ba, .inl (cB, 400, .inl f))] s.heap := hP
    have hD : va_D (wA [(tp, .inr (1, [.ref ba, .int (iI ((nn : Int))), .int (iI ((i : Int))), .int (iI (bI false))])), (ba, .inl (cB, 400, .inl f))]) [(tp, .inr (1, [.ref ba, .int (iI ((nn : Int))), .int (iI ((i : Int))), .int (iI 0)])), (ba, .inl (cB, 400, .inl f))] := hD
    refine lv_aload_n hx hb d_Tape_readByte_0 rfl (lv_at hl 0 rfl) ?_
    refine g_get hx hb hk hown hK hP 0 rfl f_Tape_22 rfl d_Tape_readByte_1 ?_
    refine ri_if_eq (tgt := 8) hx hb d_Tape_readByte_4 (by decide) (fun h4 => ?_) (fun h4 => ?_)
    · refine lv_aload_n hx hb d_Tape_readByte_8 rfl (lv_at hl 0 rfl) ?_
      refine p_callV (rest := []) (q0 := 0) hx hb (hml.trans hl.1.symm) hown hk hK k_Tape_56 (ct_Tape_nextByte l D tys tp ba cB nn i false f hty (by omega) (by omega)) (w_subP (is := [0, 1]) hP rfl) (w_subD (is := [0, 1]) hD rfl rfl) rfl rfl rfl rfl ⟨rfl, rfl⟩ ⟨by decide, by decide, by decide, by decide⟩ (Nat.le_of_ble_eq_true rfl) d_Tape_readByte_9 ?_
      refine lv_iload_n hx hb d_Tape_readByte_12 rfl (lv_at hl 1 rfl) ?_
      refine ri_icmp_ne (tgt := 29) hx hb d_Tape_readByte_13 (by decide) (fun h13 => ?_) (fun h13 => ?_)
      · refine lv_aload_n hx hb d_Tape_readByte_29 rfl (lv_at hl 0 rfl) ?_
        refine lv_iconst (v := iI 1) hx hb d_Tape_readByte_30 rfl ?_
        refine g_put hx hb hk hown hK hP hD hS 0 rfl f_Tape_22 fT_Tape rfl (zb_nar (by decide)) rfl (Nat.le_of_ble_eq_true rfl) d_Tape_readByte_31 (fun H locs hP hD hS => ?_)
        have hP : va_P D vwCl [(tp, .inr (1, [.ref ba, .int (iI ((nn : Int))), .int (iI ((i : Int))), .int (iI 1)])), (ba, .inl (cB, 400, .inl f))] H := hP
        have hD : va_D (wA [(tp, .inr (1, [.ref ba, .int (iI ((nn : Int))), .int (iI ((i : Int))), .int (iI (bI false))])), (ba, .inl (cB, 400, .inl f))]) [(tp, .inr (1, [.ref ba, .int (iI ((nn : Int))), .int (iI ((i : Int))), .int (iI 1)])), (ba, .inl (cB, 400, .inl f))] := hD
        exact m_vret hx hb hr hlk hP hS d_Tape_readByte_34 (by first | (rw [zByte_eq h13]; rfl) | (rw [zByte_ne h13]; rfl))
      · refine lv_aload_n hx hb d_Tape_readByte_16 rfl (lv_at hl 0 rfl) ?_
        refine lv_dup hx hb d_Tape_readByte_17 rfl ?_
        refine g_get hx hb hk hown hK hP 0 rfl f_Tape_19 rfl d_Tape_readByte_18 ?_
        refine lv_iconst (v := iI 1) hx hb d_Tape_readByte_21 rfl ?_
        refine ri_iadd hx hb d_Tape_readByte_22 ?_
        refine ri_i (show ((i : Int)) + 1 = ((i + 1 : Nat) : Int) from by omega) ?_
        refine g_put hx hb hk hown hK hP hD hS 0 rfl f_Tape_19 fT_Tape rfl (rfl) rfl (Nat.le_of_ble_eq_true rfl) d_Tape_readByte_23 (fun H locs hP hD hS => ?_)
        have hP : va_P D vwCl [(tp, .inr (1, [.ref ba, .int (iI ((nn : Int))), .int (iI (((i + 1 : Nat) : Int))), .int (iI 0)])), (ba, .inl (cB, 400, .inl f))] H := hP
        have hD : va_D (wA [(tp, .inr (1, [.ref ba, .int (iI ((nn : Int))), .int (iI ((i : Int))), .int (iI (bI false))])), (ba, .inl (cB, 400, .inl f))]) [(tp, .inr (1, [.ref ba, .int (iI ((nn : Int))), .int (iI (((i + 1 : Nat) : Int))), .int (iI 0)])), (ba, .inl (cB, 400, .inl f))] := hD
        refine lv_goto (tgt := 34) hx hb d_Tape_readByte_26 (by decide) ?_
        exact m_vret hx hb hr hlk hP hS d_Tape_readByte_34 (by first | (rw [zByte_eq h13]; rfl) | (rw [zByte_ne h13]; rfl))
    · exfalso; omega
abbrev rm_Tape_readBlanks : Room := { frames := 2, cells := 0, slots := 0, locals := 41 }
set_option maxHeartbeats 4000000 in
set_option maxRecDepth 100000 in
theorem ct_Tape_readBlanks (l : Launch) (D : va_G) (tys : List (ClassId × FieldType)) (tp : Nat) (ba : Nat) (cB : ClassId) (nn : Nat) (i : Nat) (bk : Bool) (f : Nat → Int32) (hty : tys[0]? = some (cB, .byte)) (gn : nn ≤ 400) (gi : i ≤ nn) : mMet l y_Tape_readBlanks c_Tape_readBlanks 1 none rm_Tape_readBlanks D tys [.ref tp] [(tp, .inr (1, [.ref ba, .int (iI ((nn : Int))), .int (iI ((i : Int))), .int (iI (bI bk))])), (ba, .inl (cB, 400, .inl f))] none [(tp, .inr (1, [.ref ba, .int (iI ((nn : Int))), .int (iI ((((zBl nn f (i, bk)).1 : Nat) : Int))), .int (iI (bI ((zBl nn f (i, bk)).2)))])), (ba, .inl (cB, 400, .inl f))] := by
  refine mMet_of (by decide) (Nat.le_of_ble_eq_true rfl) ?_
  intro p e s m below meth c hx hb hr hown hlk hml hk hK hP hD hS ls hl
  have hl : lv_has ls 1 [(0, .ref tp)] := hl
  refine lv_aload_n hx hb d_Tape_readBlanks_0 rfl (lv_at hl 0 rfl) ?_
  refine lv_bipush (v := iI 32) hx hb d_Tape_readBlanks_1 (by decide) ?_
  refine m_callV (rest := []) (q0 := 0) hx hb (hml.trans hl.1.symm) hown hk hK k_Tape_59 (ct_Tape_readByte l D tys tp ba cB nn i bk f 32 hty (by omega) (by omega) (by omega) (by omega)) hP hD hS [0, 1] rfl rfl rfl rfl rfl rfl rfl ⟨rfl, rfl⟩ ⟨by decide, by decide, by decide, by decide⟩ (Nat.le_of_ble_eq_true rfl) d_Tape_readBlanks_3 (fun H locs hP hD hS => ?_)
  have hP : va_P D vwCl [(tp, .inr (1, [.ref ba, .int (iI ((nn : Int))), .int (iI ((((zByte nn f 32 (i, bk)).1 : Nat) : Int))), .int (iI (bI ((zByte nn f 32 (i, bk)).2)))])), (ba, .inl (cB, 400, .inl f))] H := hP
  have hD : va_D (wA [(tp, .inr (1, [.ref ba, .int (iI ((nn : Int))), .int (iI ((i : Int))), .int (iI (bI bk))])), (ba, .inl (cB, 400, .inl f))]) [(tp, .inr (1, [.ref ba, .int (iI ((nn : Int))), .int (iI ((((zByte nn f 32 (i, bk)).1 : Nat) : Int))), .int (iI (bI ((zByte nn f 32 (i, bk)).2)))])), (ba, .inl (cB, 400, .inl f))] := hD
  have gz := zByte_b (n := nn) (f := f) (c := 32) (z := (i, bk)) (by decide) gi
  have ge := zBl_by nn f (i, bk)
  generalize zByte nn f 32 (i, bk) = zz at hP hD gz ge
  obtain ⟨j0, b0⟩ := zz
  simp only at gz ge
  cases b0 with
  | true =>
    have hP : va_P D vwCl [(tp, .inr (1, [.ref ba, .int (iI ((nn : Int))), .int (iI ((j0 : Int))), .int (iI 1)])), (ba, .inl (cB, 400, .inl f))] H := hP
    have hD : va_D (wA [(tp, .inr (1, [.ref ba, .int (iI ((nn : Int))), .int (iI ((i : Int))), .int (iI (bI bk))])), (ba, .inl (cB, 400, .inl f))]) [(tp, .inr (1, [.ref ba, .int (iI ((nn : Int))), .int (iI ((j0 : Int))), .int (iI 1)])), (ba, .inl (cB, 400, .inl f))] := hD
    refine lv_aload_n hx hb d_Tape_readBlanks_6 rfl (lv_at hl 0 rfl) ?_
    refine g_get hx hb hk hown hK hP 0 rfl f_Tape_22 rfl d_Tape_readBlanks_7 ?_
    refine ri_if_ne (tgt := 46) hx hb d_Tape_readBlanks_10 (by decide) (fun h10 => ?_) (fun h10 => ?_)
    · exact m_vret hx hb hr hlk hP hS d_Tape_readBlanks_46 (by rw [ge]; rfl)
    · exfalso; omega
  | false =>
    have hP : va_P D vwCl [(tp, .inr (1, [.ref ba, .int (iI ((nn : Int))), .int (iI ((j0 : Int))), .int (iI 0)])), (ba, .inl (cB, 400, .inl f))] H := hP
    have hD : va_D (wA [(tp, .inr (1, [.ref ba, .int (iI ((nn : Int))), .int (iI ((i : Int))), .int (iI (bI bk))])), (ba, .inl (cB, 400, .inl f))]) [(tp, .inr (1, [.ref ba, .int (iI ((nn : Int))), .int (iI ((j0 : Int))), .int (iI 0)])), (ba, .inl (cB, 400, .inl f))] := hD
    have loop6 : ∀ (n : Nat) (j : Nat) (ls : Array Slot) (H : Heap) (locs : List Loc), (j ≤ nn) → (zSkip f (nn - j0) j0 = zSkip f (nn - j) j) → nn - j = n → va_P D vwCl [(tp, .inr (1, [.ref ba, .int (iI ((nn : Int))), .int (iI ((j : Int))), .int (iI 0)])), (ba, .inl (cB, 400, .inl f))] H → va_D (wA [(tp, .inr (1, [.ref ba, .int (iI ((nn : Int))), .int (iI ((i : Int))), .int (iI (bI bk))])), (ba, .inl (cB, 400, .inl f))]) [(tp, .inr (1, [.ref ba, .int (iI ((nn : Int))), .int (iI ((j : Int))), .int (iI 0)])), (ba, .inl (cB, 400, .inl f))] → va_S (wA [(tp, .inr (1, [.ref ba, .int (iI ((nn : Int))), .int (iI ((i : Int))), .int (iI (bI bk))])), (ba, .inl (cB, 400, .inl f))]) s.heap H locs → lv_has ls 1 [(0, .ref tp)] → W p l e rm_Tape_readBlanks s m ([.ref tp] : List Value).toArray below meth c H locs 0 0 (MQ below (mQ D [(tp, .inr (1, [.ref ba, .int (iI ((nn : Int))), .int (iI ((i : Int))), .int (iI (bI bk))])), (ba, .inl (cB, 400, .inl f))] none [(tp, .inr (1, [.ref ba, .int (iI ((nn : Int))), .int (iI ((((zBl nn f (i, bk)).1 : Nat) : Int))), .int (iI (bI ((zBl nn f (i, bk)).2)))])), (ba, .inl (cB, 400, .inl f))]) ([.ref tp] : List Value).toArray s 0 0 (wA [(tp, .inr (1, [.ref ba, .int (iI ((nn : Int))), .int (iI ((i : Int))), .int (iI (bI bk))])), (ba, .inl (cB, 400, .inl f))])) (F0 m 6 ls []) := by
      intro n
      induction n using Nat.strongRecOn with
      | _ n ih =>
      intro j ls H locs hj hv hn hP hD hS hl
      have gP := zPk_b nn f j
      refine lv_aload_n hx hb d_Tape_readBlanks_6 rfl (lv_at hl 0 rfl) ?_
      refine g_get hx hb hk hown hK hP 0 rfl f_Tape_22 rfl d_Tape_readBlanks_7 ?_
      refine ri_if_ne (tgt := 46) hx hb d_Tape_readBlanks_10 (by decide) (fun h10 => ?_) (fun h10 => ?_)
      · exfalso; omega
      · refine lv_aload_n hx hb d_Tape_readBlanks_13 rfl (lv_at hl 0 rfl) ?_
        refine g_get hx hb hk hown hK hP 0 rfl f_Tape_19 rfl d_Tape_readBlanks_14 ?_
        refine lv_aload_n hx hb d_Tape_readBlanks_17 rfl (lv_at hl 0 rfl) ?_
        refine g_get hx hb hk hown hK hP 0 rfl f_Tape_15 rfl d_Tape_readBlanks_18 ?_
        refine ri_icmp_ge (tgt := 46) hx hb d_Tape_readBlanks_21 (by decide) (fun h21 => ?_) (fun h21 => ?_)
        · exact m_vret hx hb hr hlk hP hS d_Tape_readBlanks_46 (by rw [ge, if_neg (by simp), hv]; first | (rw [zSkip_end (f := f) (n := nn) (j := j) (by omega)]; rfl) | (rw [zSkip_at (f := f) (n := nn) (j := j) (by omega) (by rw [← zPk_in (n := nn) (f := f) (i := j) (by omega)]; exact h30)]; rfl))
        · refine lv_aload_n hx hb d_Tape_readBlanks_24 rfl (lv_at hl 0 rfl) ?_
          refine p_callV (rest := []) (q0 := 0) hx hb (hml.trans hl.1.symm) hown hk hK k_Tape_56 (ct_Tape_nextByte l D tys tp ba cB nn j false f hty (by omega) (by omega)) (w_subP (is := [0, 1]) hP rfl) (w_subD (is := [0, 1]) hD rfl rfl) rfl rfl rfl rfl ⟨rfl, rfl⟩ ⟨by decide, by decide, by decide, by decide⟩ (Nat.le_of_ble_eq_true rfl) d_Tape_readBlanks_25 ?_
          refine lv_bipush (v := iI 32) hx hb d_Tape_readBlanks_28 (by decide) ?_
          refine ri_icmp_ne (tgt := 46) hx hb d_Tape_readBlanks_30 (by decide) (fun h30 => ?_) (fun h30 => ?_)
          · exact m_vret hx hb hr hlk hP hS d_Tape_readBlanks_46 (by rw [ge, if_neg (by simp), hv]; first | (rw [zSkip_end (f := f) (n := nn) (j := j) (by omega)]; rfl) | (rw [zSkip_at (f := f) (n := nn) (j := j) (by omega) (by rw [← zPk_in (n := nn) (f := f) (i := j) (by omega)]; exact h30)]; rfl))
          · refine lv_aload_n hx hb d_Tape_readBlanks_33 rfl (lv_at hl 0 rfl) ?_
            refine lv_dup hx hb d_Tape_readBlanks_34 rfl ?_
            refine g_get hx hb hk hown hK hP 0 rfl f_Tape_19 rfl d_Tape_readBlanks_35 ?_
            refine lv_iconst (v := iI 1) hx hb d_Tape_readBlanks_38 rfl ?_
            refine ri_iadd hx hb d_Tape_readBlanks_39 ?_
            refine ri_i (show ((j : Int)) + 1 = ((j + 1 : Nat) : Int) from by omega) ?_
            refine g_put hx hb hk hown hK hP hD hS 0 rfl f_Tape_19 fT_Tape rfl (rfl) rfl (Nat.le_of_ble_eq_true rfl) d_Tape_readBlanks_40 (fun H locs hP hD hS => ?_)
            have hP : va_P D vwCl [(tp, .inr (1, [.ref ba, .int (iI ((nn : Int))), .int (iI (((j + 1 : Nat) : Int))), .int (iI 0)])), (ba, .inl (cB, 400, .inl f))] H := hP
            have hD : va_D (wA [(tp, .inr (1, [.ref ba, .int (iI ((nn : Int))), .int (iI ((i : Int))), .int (iI (bI bk))])), (ba, .inl (cB, 400, .inl f))]) [(tp, .inr (1, [.ref ba, .int (iI ((nn : Int))), .int (iI (((j + 1 : Nat) : Int))), .int (iI 0)])), (ba, .inl (cB, 400, .inl f))] := hD
            refine lv_goto (tgt := 6) hx hb d_Tape_readBlanks_43 (by decide) ?_
            exact ih _ (by omega) (j + 1) ls _ _ (by omega) (by rw [hv, zSkip_go (f := f) (n := nn) (j := j) (by omega) (by rw [← zPk_in (n := nn) (f := f) (i := j) (by omega)]; exact h30)]) rfl hP hD hS (lv_sub hl [0] rfl)
    exact loop6 _ j0 ls _ _ (by omega) rfl rfl hP hD hS (lv_sub hl [0] rfl)
abbrev rm_Tape_readDigits : Room := { frames := 1, cells := 0, slots := 0, locals := 21 }
set_option maxHeartbeats 4000000 in
set_option maxRecDepth 100000 in
theorem ct_Tape_readDigits (l : Launch) (D : va_G) (tys : List (ClassId × FieldType)) (tp : Nat) (ba : Nat) (cB : ClassId) (nn : Nat) (i : Nat) (bk : Bool) (f : Nat → Int32) (hty : tys[0]? = some (cB, .byte)) (gn : nn ≤ 400) (gi : i ≤ nn) : mMet l y_Tape_readDigits c_Tape_readDigits 3 (some .int) rm_Tape_readDigits D tys [.ref tp] [(tp, .inr (1, [.ref ba, .int (iI ((nn : Int))), .int (iI ((i : Int))), .int (iI (bI bk))])), (ba, .inl (cB, 400, .inl f))] (some (.int (iI ((zDg nn f i).1)))) [(tp, .inr (1, [.ref ba, .int (iI ((nn : Int))), .int (iI ((((zDg nn f i).2 : Nat) : Int))), .int (iI (bI bk))])), (ba, .inl (cB, 400, .inl f))] := by
  refine mMet_of (by decide) (Nat.le_of_ble_eq_true rfl) ?_
  intro p e s m below meth c hx hb hr hown hlk hml hk hK hP hD hS ls hl
  have hl : lv_has ls 3 [(0, .ref tp)] := hl
  have gP := zPk_b nn f i
  refine lv_aload_n hx hb d_Tape_readDigits_0 rfl (lv_at hl 0 rfl) ?_
  refine p_callV (rest := []) (q0 := 0) hx hb (hml.trans hl.1.symm) hown hk hK k_Tape_56 (ct_Tape_nextByte l D tys tp ba cB nn i bk f hty (by omega) (by omega)) (w_subP (is := [0, 1]) hP rfl) (w_subD (is := [0, 1]) hD rfl rfl) rfl rfl rfl rfl ⟨rfl, rfl⟩ ⟨by decide, by decide, by decide, by decide⟩ (Nat.le_of_ble_eq_true rfl) d_Tape_readDigits_1 ?_
  refine lv_istore_n (lv' := [(1, .int (iI (zPk nn f i))), (0, .ref tp)]) hx hb d_Tape_readDigits_4 rfl hl (by decide) rfl (fun ls hl => ?_)
  refine lv_iload_n hx hb d_Tape_readDigits_5 rfl (lv_at hl 0 rfl) ?_
  refine p_callS (rest := []) hx hb (hml.trans hl.1.symm) hown hk hK k_Tape_80 (ct_Tape_isDigit l D tys (zPk nn f i) (by omega) (by omega)) nil_P nil_D rfl rfl ⟨rfl, rfl⟩ ⟨by decide, by decide, by decide, by decide⟩ (Nat.le_of_ble_eq_true rfl) d_Tape_readDigits_6 ?_
  have gB := bI_b (zDigB (zPk nn f i))
  refine ri_if_ne (tgt := 14) hx hb d_Tape_readDigits_9 (by decide) (fun h9 => ?_) (fun h9 => ?_)
  · have gd := zDigB_t h9
    have gl : i < nn := zPk_lt (f := f) (by omega)
    refine lv_aload_n hx hb d_Tape_readDigits_14 rfl (lv_at hl 1 rfl) ?_
    refine lv_dup hx hb d_Tape_readDigits_15 rfl ?_
    refine g_get hx hb hk hown hK hP 0 rfl f_Tape_19 rfl d_Tape_readDigits_16 ?_
    refine lv_iconst (v := iI 1) hx hb d_Tape_readDigits_19 rfl ?_
    refine ri_iadd hx hb d_Tape_readDigits_20 ?_
    refine ri_i (show ((i : Int)) + 1 = ((i + 1 : Nat) : Int) from by omega) ?_
    refine g_put hx hb hk hown hK hP hD hS 0 rfl f_Tape_19 fT_Tape rfl (rfl) rfl (Nat.le_of_ble_eq_true rfl) d_Tape_readDigits_21 (fun H locs hP hD hS => ?_)
    have hP : va_P D vwCl [(tp, .inr (1, [.ref ba, .int (iI ((nn : Int))), .int (iI (((i + 1 : Nat) : Int))), .int (iI (bI bk))])), (ba, .inl (cB, 400, .inl f))] H := hP
    have hD : va_D (wA [(tp, .inr (1, [.ref ba, .int (iI ((nn : Int))), .int (iI ((i : Int))), .int (iI (bI bk))])), (ba, .inl (cB, 400, .inl f))]) [(tp, .inr (1, [.ref ba, .int (iI ((nn : Int))), .int (iI (((i + 1 : Nat) : Int))), .int (iI (bI bk))])), (ba, .inl (cB, 400, .inl f))] := hD
    refine lv_iload_n hx hb d_Tape_readDigits_24 rfl (lv_at hl 0 rfl) ?_
    refine lv_bipush (v := iI 48) hx hb d_Tape_readDigits_25 (by decide) ?_
    refine ri_isub hx hb d_Tape_readDigits_27 ?_
    refine lv_istore_n (lv' := [(2, .int (iI ((zPk nn f i) - 48))), (1, .int (iI (zPk nn f i))), (0, .ref tp)]) hx hb d_Tape_readDigits_28 rfl hl (by decide) rfl (fun ls hl => ?_)
    have loop29 : ∀ (n : Nat) (j : Nat) (v : Int) (ls : Array Slot) (H : Heap) (locs : List Loc), (j ≤ nn) → (0 ≤ v) → (v ≤ 100000) → (v = 0 → zDg nn f i = (v, j)) → (0 < v → zDg nn f i = zRun f (nn - j) j v) → nn - j = n → va_P D vwCl [(tp, .inr (1, [.ref ba, .int (iI ((nn : Int))), .int (iI ((j : Int))), .int (iI (bI bk))])), (ba, .inl (cB, 400, .inl f))] H → va_D (wA [(tp, .inr (1, [.ref ba, .int (iI ((nn : Int))), .int (iI ((i : Int))), .int (iI (bI bk))])), (ba, .inl (cB, 400, .inl f))]) [(tp, .inr (1, [.ref ba, .int (iI ((nn : Int))), .int (iI ((j : Int))), .int (iI (bI bk))])), (ba, .inl (cB, 400, .inl f))] → va_S (wA [(tp, .inr (1, [.ref ba, .int (iI ((nn : Int))), .int (iI ((i : Int))), .int (iI (bI bk))])), (ba, .inl (cB, 400, .inl f))]) s.heap H locs → lv_has ls 3 [(2, .int (iI v)), (0, .ref tp)] → W p l e rm_Tape_readDigits s m ([.ref tp] : List Value).toArray below meth c H locs 0 0 (MQ below (mQ D [(tp, .inr (1, [.ref ba, .int (iI ((nn : Int))), .int (iI ((i : Int))), .int (iI (bI bk))])), (ba, .inl (cB, 400, .inl f))] (some (.int (iI ((zDg nn f i).1)))) [(tp, .inr (1, [.ref ba, .int (iI ((nn : Int))), .int (iI ((((zDg nn f i).2 : Nat) : Int))), .int (iI (bI bk))])), (ba, .inl (cB, 400, .inl f))]) ([.ref tp] : List Value).toArray s 0 0 (wA [(tp, .inr (1, [.ref ba, .int (iI ((nn : Int))), .int (iI ((i : Int))), .int (iI (bI bk))])), (ba, .inl (cB, 400, .inl f))])) (F0 m 29 ls []) := by
      intro n
      induction n using Nat.strongRecOn with
      | _ n ih =>
      intro j v ls H locs hj hv1 hv2 hz hp hn hP hD hS hl
      have gP2 := zPk_b nn f j
      refine lv_iload_n hx hb d_Tape_readDigits_29 rfl (lv_at hl 0 rfl) ?_
      refine ri_if_le (tgt := 85) hx hb d_Tape_readDigits_30 (by decide) (fun h30 => ?_) (fun h30 => ?_)
      · refine lv_iload_n hx hb d_Tape_readDigits_85 rfl (lv_at hl 0 rfl) ?_
        have hR : zDg nn f i = (v, j) := by first | exact hz (by omega) | (rw [hp (by omega), zRun_end (f := f) (n := nn) (j := j) (by omega)]; done) | (rw [hp (by omega), zRun_at (f := f) (n := nn) (j := j) (by omega) (by rw [← zPk_in (n := nn) (f := f) (i := j) (by omega)]; exact zDigB_f h51)]; done)
        exact m_iret hx hb hr hlk hP hS d_Tape_readDigits_86 (by rw [hR]) (by rw [hR])
      · refine lv_aload_n hx hb d_Tape_readDigits_33 rfl (lv_at hl 1 rfl) ?_
        refine g_get hx hb hk hown hK hP 0 rfl f_Tape_19 rfl d_Tape_readDigits_34 ?_
        refine lv_aload_n hx hb d_Tape_readDigits_37 rfl (lv_at hl 1 rfl) ?_
        refine g_get hx hb hk hown hK hP 0 rfl f_Tape_15 rfl d_Tape_readDigits_38 ?_
        refine ri_icmp_ge (tgt := 85) hx hb d_Tape_readDigits_41 (by decide) (fun h41 => ?_) (fun h41 => ?_)
        · refine lv_iload_n hx hb d_Tape_readDigits_85 rfl (lv_at hl 0 rfl) ?_
          have hR : zDg nn f i = (v, j) := by first | exact hz (by omega) | (rw [hp (by omega), zRun_end (f := f) (n := nn) (j := j) (by omega)]; done) | (rw [hp (by omega), zRun_at (f := f) (n := nn) (j := j) (by omega) (by rw [← zPk_in (n := nn) (f := f) (i := j) (by omega)]; exact zDigB_f h51)]; done)
          exact m_iret hx hb hr hlk hP hS d_Tape_readDigits_86 (by rw [hR]) (by rw [hR])
        · refine lv_aload_n hx hb d_Tape_readDigits_44 rfl (lv_at hl 1 rfl) ?_
          refine p_callV (rest := []) (q0 := 0) hx hb (hml.trans hl.1.symm) hown hk hK k_Tape_56 (ct_Tape_nextByte l D tys tp ba cB nn j bk f hty (by omega) (by omega)) (w_subP (is := [0, 1]) hP rfl) (w_subD (is := [0, 1]) hD rfl rfl) rfl rfl rfl rfl ⟨rfl, rfl⟩ ⟨by decide, by decide, by decide, by decide⟩ (Nat.le_of_ble_eq_true rfl) d_Tape_readDigits_45 ?_
          refine p_callS (rest := []) hx hb (hml.trans hl.1.symm) hown hk hK k_Tape_80 (ct_Tape_isDigit l D tys (zPk nn f j) (by omega) (by omega)) nil_P nil_D rfl rfl ⟨rfl, rfl⟩ ⟨by decide, by decide, by decide, by decide⟩ (Nat.le_of_ble_eq_true rfl) d_Tape_readDigits_48 ?_
          have gB := bI_b (zDigB (zPk nn f j))
          refine ri_if_eq (tgt := 85) hx hb d_Tape_readDigits_51 (by decide) (fun h51 => ?_) (fun h51 => ?_)
          · refine lv_iload_n hx hb d_Tape_readDigits_85 rfl (lv_at hl 0 rfl) ?_
            have hR : zDg nn f i = (v, j) := by first | exact hz (by omega) | (rw [hp (by omega), zRun_end (f := f) (n := nn) (j := j) (by omega)]; done) | (rw [hp (by omega), zRun_at (f := f) (n := nn) (j := j) (by omega) (by rw [← zPk_in (n := nn) (f := f) (i := j) (by omega)]; exact zDigB_f h51)]; done)
            exact m_iret hx hb hr hlk hP hS d_Tape_readDigits_86 (by rw [hR]) (by rw [hR])
          · refine lv_iload_n hx hb d_Tape_readDigits_54 rfl (lv_at hl 0 rfl) ?_
            refine lv_bipush (v := iI 10) hx hb d_Tape_readDigits_55 (by decide) ?_
            refine ri_imul hx hb d_Tape_readDigits_57 ?_
            refine lv_aload_n hx hb d_Tape_readDigits_58 rfl (lv_at hl 1 rfl) ?_
            refine p_callV (rest := [.int (iI (v * 10))]) (q0 := 0) hx hb (hml.trans hl.1.symm) hown hk hK k_Tape_56 (ct_Tape_nextByte l D tys tp ba cB nn j bk f hty (by omega) (by omega)) (w_subP (is := [0, 1]) hP rfl) (w_subD (is := [0, 1]) hD rfl rfl) rfl rfl rfl rfl ⟨rfl, rfl⟩ ⟨by decide, by decide, by decide, by decide⟩ (Nat.le_of_ble_eq_true rfl) d_Tape_readDigits_59 ?_
            refine ri_iadd hx hb d_Tape_readDigits_62 ?_
            refine lv_bipush (v := iI 48) hx hb d_Tape_readDigits_63 (by decide) ?_
            refine ri_isub hx hb d_Tape_readDigits_65 ?_
            refine lv_ldc (v := iI 100000) hx hb hown (hk _ kc_Tape_84 _) d_Tape_readDigits_66 ?_
            refine p_callS (rest := []) hx hb (hml.trans hl.1.symm) hown hk hK k_Tape_85 (ct_Math_minI l D tys (((v * 10) + (zPk nn f j)) - 48) 100000 (by omega) (by omega) (by omega) (by omega)) nil_P nil_D rfl rfl ⟨rfl, rfl⟩ ⟨by decide, by decide, by decide, by decide⟩ (Nat.le_of_ble_eq_true rfl) d_Tape_readDigits_68 ?_
            refine lv_istore_n (lv' := [(2, .int (iI (min (((v * 10) + (zPk nn f j)) - 48) 100000))), (0, .ref tp)]) hx hb d_Tape_readDigits_71 rfl hl (by decide) rfl (fun ls hl => ?_)
            refine lv_aload_n hx hb d_Tape_readDigits_72 rfl (lv_at hl 1 rfl) ?_
            refine lv_dup hx hb d_Tape_readDigits_73 rfl ?_
            refine g_get hx hb hk hown hK hP 0 rfl f_Tape_19 rfl d_Tape_readDigits_74 ?_
            refine lv_iconst (v := iI 1) hx hb d_Tape_readDigits_77 rfl ?_
            refine ri_iadd hx hb d_Tape_readDigits_78 ?_
            refine ri_i (show ((j : Int)) + 1 = ((j + 1 : Nat) : Int) from by omega) ?_
            refine g_put hx hb hk hown hK hP hD hS 0 rfl f_Tape_19 fT_Tape rfl (rfl) rfl (Nat.le_of_ble_eq_true rfl) d_Tape_readDigits_79 (fun H locs hP hD hS => ?_)
            have hP : va_P D vwCl [(tp, .inr (1, [.ref ba, .int (iI ((nn : Int))), .int (iI (((j + 1 : Nat) : Int))), .int (iI (bI bk))])), (ba, .inl (cB, 400, .inl f))] H := hP
            have hD : va_D (wA [(tp, .inr (1, [.ref ba, .int (iI ((nn : Int))), .int (iI ((i : Int))), .int (iI (bI bk))])), (ba, .inl (cB, 400, .inl f))]) [(tp, .inr (1, [.ref ba, .int (iI ((nn : Int))), .int (iI (((j + 1 : Nat) : Int))), .int (iI (bI bk))])), (ba, .inl (cB, 400, .inl f))] := hD
            refine lv_goto (tgt := 29) hx hb d_Tape_readDigits_82 (by decide) ?_
            exact ih _ (by omega) (j + 1) (min (((v * 10) + (zPk nn f j)) - 48) 100000) ls _ _ (by omega) (by have := zDigB_t h51; omega) (by omega) (fun h => by exfalso; have := zDigB_t h51; omega) (fun h => by rw [hp (by omega), zRun_go (f := f) (n := nn) (j := j) (by omega) (by rw [← zPk_in (n := nn) (f := f) (i := j) (by omega)]; exact zDigB_t h51), zPk_in (n := nn) (f := f) (i := j) (by omega)]) rfl hP hD hS (lv_sub hl [0, 1] rfl)
    exact loop29 _ (i + 1) (zPk nn f i - 48) ls _ _ (by omega) (by omega) (by omega) (fun h => by rw [zDg_0 (by omega), h]) (fun h => zDg_r gd (by omega)) rfl hP hD hS (lv_sub hl [0, 2] rfl)
  · refine lv_iconst (v := iI (-1)) hx hb d_Tape_readDigits_12 rfl ?_
    exact m_iret hx hb hr hlk hP hS d_Tape_readDigits_13 (by rw [zDg_no (zDigB_f h9)]) (by rw [zDg_no (zDigB_f h9)])
abbrev rm_Tape_readNumber : Room := { frames := 2, cells := 0, slots := 0, locals := 43 }
set_option maxHeartbeats 4000000 in
set_option maxRecDepth 100000 in
theorem ct_Tape_readNumber (l : Launch) (D : va_G) (tys : List (ClassId × FieldType)) (tp : Nat) (ba : Nat) (cB : ClassId) (nn : Nat) (i : Nat) (bk : Bool) (f : Nat → Int32) (lo : Int) (hi : Int) (hty : tys[0]? = some (cB, .byte)) (gn : nn ≤ 400) (gi : i ≤ nn) (gl1 : 0 ≤ lo) (gl2 : lo ≤ 100000) (gh1 : 0 ≤ hi) (gh2 : hi ≤ 100000) : mMet l y_Tape_readNumber c_Tape_readNumber 5 (some .int) rm_Tape_readNumber D tys [.ref tp, .int (iI lo), .int (iI hi)] [(tp, .inr (1, [.ref ba, .int (iI ((nn : Int))), .int (iI ((i : Int))), .int (iI (bI bk))])), (ba, .inl (cB, 400, .inl f))] (some (.int (iI ((zNum nn f lo hi (i, bk)).1)))) [(tp, .inr (1, [.ref ba, .int (iI ((nn : Int))), .int (iI ((((zNum nn f lo hi (i, bk)).2.1 : Nat) : Int))), .int (iI (bI ((zNum nn f lo hi (i, bk)).2.2)))])), (ba, .inl (cB, 400, .inl f))] := by
  refine mMet_of (by decide) (Nat.le_of_ble_eq_true rfl) ?_
  intro p e s m below meth c hx hb hr hown hlk hml hk hK hP hD hS ls hl
  have hl : lv_has ls 5 [(0, .ref tp), (1, .int (iI lo)), (2, .int (iI hi))] := hl
  have gD := zDg_b (f := f) gi
  cases bk with
  | true =>
    have hP : va_P D vwCl [(tp, .inr (1, [.ref ba, .int (iI ((nn : Int))), .int (iI ((i : Int))), .int (iI 1)])), (ba, .inl (cB, 400, .inl f))] s.heap := hP
    have hD : va_D (wA [(tp, .inr (1, [.ref ba, .int (iI ((nn : Int))), .int (iI ((i : Int))), .int (iI (bI true))])), (ba, .inl (cB, 400, .inl f))]) [(tp, .inr (1, [.ref ba, .int (iI ((nn : Int))), .int (iI ((i : Int))), .int (iI 1)])), (ba, .inl (cB, 400, .inl f))] := hD
    refine lv_aload_n hx hb d_Tape_readNumber_0 rfl (lv_at hl 0 rfl) ?_
    refine g_get hx hb hk hown hK hP 0 rfl f_Tape_22 rfl d_Tape_readNumber_1 ?_
    refine ri_if_eq (tgt := 9) hx hb d_Tape_readNumber_4 (by decide) (fun h4 => ?_) (fun h4 => ?_)
    · exfalso; omega
    · refine lv_iconst (v := iI 0) hx hb d_Tape_readNumber_7 rfl ?_
      exact m_iret hx hb hr hlk hP hS d_Tape_readNumber_8 (by rw [zNum_brk nn f lo hi (z := (i, true)) rfl]; rfl) (by rw [zNum_brk nn f lo hi (z := (i, true)) rfl])
  | false =>
    have hP : va_P D vwCl [(tp, .inr (1, [.ref ba, .int (iI ((nn : Int))), .int (iI ((i : Int))), .int (iI 0)])), (ba, .inl (cB, 400, .inl f))] s.heap := hP
    have hD : va_D (wA [(tp, .inr (1, [.ref ba, .int (iI ((nn : Int))), .int (iI ((i : Int))), .int (iI (bI false))])), (ba, .inl (cB, 400, .inl f))]) [(tp, .inr (1, [.ref ba, .int (iI ((nn : Int))), .int (iI ((i : Int))), .int (iI 0)])), (ba, .inl (cB, 400, .inl f))] := hD
    refine lv_aload_n hx hb d_Tape_readNumber_0 rfl (lv_at hl 0 rfl) ?_
    refine g_get hx hb hk hown hK hP 0 rfl f_Tape_22 rfl d_Tape_readNumber_1 ?_
    refine ri_if_eq (tgt := 9) hx hb d_Tape_readNumber_4 (by decide) (fun h4 => ?_) (fun h4 => ?_)
    · refine lv_aload_n hx hb d_Tape_readNumber_9 rfl (lv_at hl 0 rfl) ?_
      refine g_get hx hb hk hown hK hP 0 rfl f_Tape_19 rfl d_Tape_readNumber_10 ?_
      refine lv_istore_n (lv' := [(3, .int (iI ((i : Int)))), (0, .ref tp), (1, .int (iI lo)), (2, .int (iI hi))]) hx hb d_Tape_readNumber_13 rfl hl (by decide) rfl (fun ls hl => ?_)
      refine lv_aload_n hx hb d_Tape_readNumber_14 rfl (lv_at hl 1 rfl) ?_
      refine m_callV (rest := []) (q0 := 0) hx hb (hml.trans hl.1.symm) hown hk hK k_Tape_77 (ct_Tape_readDigits l D tys tp ba cB nn i false f hty (by omega) (by omega)) hP hD hS [0, 1] rfl rfl rfl rfl rfl rfl rfl ⟨rfl, rfl⟩ ⟨by decide, by decide, by decide, by decide⟩ (Nat.le_of_ble_eq_true rfl) d_Tape_readNumber_15 (fun H locs hP hD hS => ?_)
      have hP : va_P D vwCl [(tp, .inr (1, [.ref ba, .int (iI ((nn : Int))), .int (iI ((((zDg nn f i).2 : Nat) : Int))), .int (iI (bI false))])), (ba, .inl (cB, 400, .inl f))] H := hP
      have hD : va_D (wA [(tp, .inr (1, [.ref ba, .int (iI ((nn : Int))), .int (iI ((i : Int))), .int (iI (bI false))])), (ba, .inl (cB, 400, .inl f))]) [(tp, .inr (1, [.ref ba, .int (iI ((nn : Int))), .int (iI ((((zDg nn f i).2 : Nat) : Int))), .int (iI (bI false))])), (ba, .inl (cB, 400, .inl f))] := hD
      refine lv_istore (lv' := [(4, .int (iI ((zDg nn f i).1))), (3, .int (iI ((i : Int)))), (0, .ref tp), (1, .int (iI lo)), (2, .int (iI hi))]) hx hb d_Tape_readNumber_18 hl (by decide) rfl (fun ls hl => ?_)
      refine lv_iload hx hb d_Tape_readNumber_20 (lv_at hl 0 rfl) ?_
      refine lv_iload_n hx hb d_Tape_readNumber_22 rfl (lv_at hl 3 rfl) ?_
      refine ri_icmp_lt (tgt := 32) hx hb d_Tape_readNumber_23 (by decide) (fun h23 => ?_) (fun h23 => ?_)
      · refine lv_aload_n hx hb d_Tape_readNumber_32 rfl (lv_at hl 2 rfl) ?_
        refine lv_iload_n hx hb d_Tape_readNumber_33 rfl (lv_at hl 1 rfl) ?_
        refine g_put hx hb hk hown hK hP hD hS 0 rfl f_Tape_19 fT_Tape rfl (rfl) rfl (Nat.le_of_ble_eq_true rfl) d_Tape_readNumber_34 (fun H locs hP hD hS => ?_)
        have hP : va_P D vwCl [(tp, .inr (1, [.ref ba, .int (iI ((nn : Int))), .int (iI ((i : Int))), .int (iI (bI false))])), (ba, .inl (cB, 400, .inl f))] H := hP
        have hD : va_D (wA [(tp, .inr (1, [.ref ba, .int (iI ((nn : Int))), .int (iI ((i : Int))), .int (iI (bI false))])), (ba, .inl (cB, 400, .inl f))]) [(tp, .inr (1, [.ref ba, .int (iI ((nn : Int))), .int (iI ((i : Int))), .int (iI (bI false))])), (ba, .inl (cB, 400, .inl f))] := hD
        refine lv_aload_n hx hb d_Tape_readNumber_37 rfl (lv_at hl 2 rfl) ?_
        refine lv_iconst (v := iI 1) hx hb d_Tape_readNumber_38 rfl ?_
        refine g_put hx hb hk hown hK hP hD hS 0 rfl f_Tape_22 fT_Tape rfl (zb_nar (by decide)) rfl (Nat.le_of_ble_eq_true rfl) d_Tape_readNumber_39 (fun H locs hP hD hS => ?_)
        have hP : va_P D vwCl [(tp, .inr (1, [.ref ba, .int (iI ((nn : Int))), .int (iI ((i : Int))), .int (iI 1)])), (ba, .inl (cB, 400, .inl f))] H := hP
        have hD : va_D (wA [(tp, .inr (1, [.ref ba, .int (iI ((nn : Int))), .int (iI ((i : Int))), .int (iI (bI false))])), (ba, .inl (cB, 400, .inl f))]) [(tp, .inr (1, [.ref ba, .int (iI ((nn : Int))), .int (iI ((i : Int))), .int (iI 1)])), (ba, .inl (cB, 400, .inl f))] := hD
        refine lv_iload hx hb d_Tape_readNumber_42 (lv_at hl 0 rfl) ?_
        first
          | (have hR := zNum_bad (n := nn) (f := f) (lo := lo) (hi := hi) (i := i) (by omega)
             exact m_iret hx hb hr hlk hP hS d_Tape_readNumber_44 (by first | (rw [hR]; done) | (rw [hR]; rfl)) (by rw [hR]))
          | (have hR := zNum_good (n := nn) (f := f) (lo := lo) (hi := hi) (i := i) (by omega)
             exact m_iret hx hb hr hlk hP hS d_Tape_readNumber_44 (by first | (rw [hR]; done) | (rw [hR]; rfl)) (by rw [hR]))
      · refine lv_iload hx hb d_Tape_readNumber_26 (lv_at hl 0 rfl) ?_
        refine lv_iload_n hx hb d_Tape_readNumber_28 rfl (lv_at hl 4 rfl) ?_
        refine ri_icmp_le (tgt := 42) hx hb d_Tape_readNumber_29 (by decide) (fun h29 => ?_) (fun h29 => ?_)
        · refine lv_iload hx hb d_Tape_readNumber_42 (lv_at hl 0 rfl) ?_
          first
            | (have hR := zNum_bad (n := nn) (f := f) (lo := lo) (hi := hi) (i := i) (by omega)
               exact m_iret hx hb hr hlk hP hS d_Tape_readNumber_44 (by first | (rw [hR]; done) | (rw [hR]; rfl)) (by rw [hR]))
            | (have hR := zNum_good (n := nn) (f := f) (lo := lo) (hi := hi) (i := i) (by omega)
               exact m_iret hx hb hr hlk hP hS d_Tape_readNumber_44 (by first | (rw [hR]; done) | (rw [hR]; rfl)) (by rw [hR]))
        · refine lv_aload_n hx hb d_Tape_readNumber_32 rfl (lv_at hl 2 rfl) ?_
          refine lv_iload_n hx hb d_Tape_readNumber_33 rfl (lv_at hl 1 rfl) ?_
          refine g_put hx hb hk hown hK hP hD hS 0 rfl f_Tape_19 fT_Tape rfl (rfl) rfl (Nat.le_of_ble_eq_true rfl) d_Tape_readNumber_34 (fun H locs hP hD hS => ?_)
          have hP : va_P D vwCl [(tp, .inr (1, [.ref ba, .int (iI ((nn : Int))), .int (iI ((i : Int))), .int (iI (bI false))])), (ba, .inl (cB, 400, .inl f))] H := hP
          have hD : va_D (wA [(tp, .inr (1, [.ref ba, .int (iI ((nn : Int))), .int (iI ((i : Int))), .int (iI (bI false))])), (ba, .inl (cB, 400, .inl f))]) [(tp, .inr (1, [.ref ba, .int (iI ((nn : Int))), .int (iI ((i : Int))), .int (iI (bI false))])), (ba, .inl (cB, 400, .inl f))] := hD
          refine lv_aload_n hx hb d_Tape_readNumber_37 rfl (lv_at hl 2 rfl) ?_
          refine lv_iconst (v := iI 1) hx hb d_Tape_readNumber_38 rfl ?_
          refine g_put hx hb hk hown hK hP hD hS 0 rfl f_Tape_22 fT_Tape rfl (zb_nar (by decide)) rfl (Nat.le_of_ble_eq_true rfl) d_Tape_readNumber_39 (fun H locs hP hD hS => ?_)
          have hP : va_P D vwCl [(tp, .inr (1, [.ref ba, .int (iI ((nn : Int))), .int (iI ((i : Int))), .int (iI 1)])), (ba, .inl (cB, 400, .inl f))] H := hP
          have hD : va_D (wA [(tp, .inr (1, [.ref ba, .int (iI ((nn : Int))), .int (iI ((i : Int))), .int (iI (bI false))])), (ba, .inl (cB, 400, .inl f))]) [(tp, .inr (1, [.ref ba, .int (iI ((nn : Int))), .int (iI ((i : Int))), .int (iI 1)])), (ba, .inl (cB, 400, .inl f))] := hD
          refine lv_iload hx hb d_Tape_readNumber_42 (lv_at hl 0 rfl) ?_
          first
            | (have hR := zNum_bad (n := nn) (f := f) (lo := lo) (hi := hi) (i := i) (by omega)
               exact m_iret hx hb hr hlk hP hS d_Tape_readNumber_44 (by first | (rw [hR]; done) | (rw [hR]; rfl)) (by rw [hR]))
            | (have hR := zNum_good (n := nn) (f := f) (lo := lo) (hi := hi) (i := i) (by omega)
               exact m_iret hx hb hr hlk hP hS d_Tape_readNumber_44 (by first | (rw [hR]; done) | (rw [hR]; rfl)) (by rw [hR]))
    · exfalso; omega
