/-! Contracts: ZoneClock's methods that only read, and their refusals. By program (wip/whole/m_clk.py). -/
abbrev rm_Clk_place : Room := { frames := 0, cells := 0, slots := 0, locals := 0 }
set_option maxHeartbeats 4000000 in
set_option maxRecDepth 100000 in
theorem ct_Clk_place (l : Launch) (D : va_G) (tys : List (ClassId × FieldType)) (x : Nat) (tp : Nat) (dr : Nat) (za : Nat) (bp : Int) (cZ : ClassId) (aZ : Nat → Nat)  : pMet l y_Clk_place c_Clk_place 1 (some .int) rm_Clk_place D tys [.ref x] [(x, .inr (3, [.ref tp, .ref dr, .ref za, .int (iI bp)]))] (.int (iI bp)) := by
  refine pMet_of (by decide) (Nat.le_of_ble_eq_true rfl) ?_
  intro p e s m below meth c hx hb hr hown hlk hml hk hK hP hD ls hl
  have hl : lv_has ls 1 [(0, .ref x)] := hl
  refine lv_aload_n hx hb d_Clk_place_0 rfl (lv_at hl 0 rfl) ?_
  refine g_get hx hb hk hown hK hP 0 rfl f_Clk_27 rfl d_Clk_place_1 ?_
  exact p_iret hx hb hr hlk d_Clk_place_4 (by rfl)
abbrev rm_Clk_zoneAt : Room := { frames := 0, cells := 0, slots := 0, locals := 0 }
set_option maxHeartbeats 4000000 in
set_option maxRecDepth 100000 in
theorem ct_Clk_zoneAt (l : Launch) (D : va_G) (tys : List (ClassId × FieldType)) (x : Nat) (tp : Nat) (dr : Nat) (za : Nat) (bp : Int) (cZ : ClassId) (aZ : Nat → Nat) (zi : Nat) (htz : tys[4]? = some (cZ, .object "ZoneClock$Zone")) (gz : zi < 8) : pMet l y_Clk_zoneAt c_Clk_zoneAt 2 (some (.object "ZoneClock$Zone")) rm_Clk_zoneAt D tys [.ref x, .int (iI ((zi : Int)))] [(x, .inr (3, [.ref tp, .ref dr, .ref za, .int (iI bp)])), (za, .inl (cZ, 8, .inr (.inr (.inr (.inr (fun k => some (aZ k)))))))] (.ref (aZ zi)) := by
  refine pMet_of (by decide) (Nat.le_of_ble_eq_true rfl) ?_
  intro p e s m below meth c hx hb hr hown hlk hml hk hK hP hD ls hl
  have hl : lv_has ls 2 [(0, .ref x), (1, .int (iI ((zi : Int))))] := hl
  refine lv_iload_n hx hb d_Clk_zoneAt_0 rfl (lv_at hl 1 rfl) ?_
  refine ri_if_lt (tgt := 13) hx hb d_Clk_zoneAt_1 (by decide) (fun h1 => ?_) (fun h1 => ?_)
  · exfalso; omega
  · refine lv_iload_n hx hb d_Clk_zoneAt_4 rfl (lv_at hl 1 rfl) ?_
    refine lv_aload_n hx hb d_Clk_zoneAt_5 rfl (lv_at hl 0 rfl) ?_
    refine g_get hx hb hk hown hK hP 0 rfl f_Clk_23 rfl d_Clk_zoneAt_6 ?_
    refine va_alen hx hb hK hP 1 4 rfl htz (v := iI 8) (show Int32.ofNat 8 = iI 8 from by decide) d_Clk_zoneAt_9 ?_
    refine ri_icmp_lt (tgt := 21) hx hb d_Clk_zoneAt_10 (by decide) (fun h10 => ?_) (fun h10 => ?_)
    · refine lv_aload_n hx hb d_Clk_zoneAt_21 rfl (lv_at hl 0 rfl) ?_
      refine g_get hx hb hk hown hK hP 0 rfl f_Clk_23 rfl d_Clk_zoneAt_22 ?_
      refine lv_iload_n hx hb d_Clk_zoneAt_25 rfl (lv_at hl 1 rfl) ?_
      refine g_aald (i := zi) hx hb hK hP 1 4 rfl htz rfl (rfl) d_Clk_zoneAt_26 ?_
      exact p_aret hx hb hr hlk d_Clk_zoneAt_27
    · exfalso; omega
abbrev rm_Clk_zoneAt_x : Room := { frames := 6, cells := 1, slots := 6, locals := 100 }
set_option maxHeartbeats 4000000 in
set_option maxRecDepth 100000 in
theorem ct_Clk_zoneAt_x (l : Launch) (D : va_G) (tys : List (ClassId × FieldType)) (aS : Nat) (hoff : l.stackTraces = false) (x : Nat) (tp : Nat) (dr : Nat) (za : Nat) (bp : Int) (cZ : ClassId) (aZ : Nat → Nat) (z : Int) (htz : tys[4]? = some (cZ, .object "ZoneClock$Zone")) (gz1 : -2147483648 ≤ z) (gz2 : z ≤ 2147483647) (gz : z < 0 ∨ 8 ≤ z) : xMet l y_Clk_zoneAt c_Clk_zoneAt 2 (some (.object "ZoneClock$Zone")) rm_Clk_zoneAt_x D tys aS [.ref x, .int (iI z)] [(x, .inr (3, [.ref tp, .ref dr, .ref za, .int (iI bp)])), (za, .inl (cZ, 8, .inr (.inr (.inr (.inr (fun k => some (aZ k)))))))] none "java/lang/IllegalArgumentException" [(x, .inr (3, [.ref tp, .ref dr, .ref za, .int (iI bp)])), (za, .inl (cZ, 8, .inr (.inr (.inr (.inr (fun k => some (aZ k)))))))] := by
  refine xMet_of (by decide) (Nat.le_of_ble_eq_true rfl) ?_
  intro p e s m below meth c hx hb hr hown hlk hml hE hk hK hP hD hS hAS hZ ls hl
  have hl : lv_has ls 2 [(0, .ref x), (1, .int (iI z))] := hl
  refine lv_iload_n hx hb d_Clk_zoneAt_0 rfl (lv_at hl 1 rfl) ?_
  refine ri_if_lt (tgt := 13) hx hb d_Clk_zoneAt_1 (by decide) (fun h1 => ?_) (fun h1 => ?_)
  · exact x_throw (rest := []) hx hb hlk (hml.trans hl.1.symm) hE hown hk hoff xw_Clk_41 hP hS hAS hZ d_Clk_zoneAt_13 d_Clk_zoneAt_16 d_Clk_zoneAt_17 d_Clk_zoneAt_20 (by rfl) rfl ⟨by decide, by decide, by decide, by decide⟩
  · refine lv_iload_n hx hb d_Clk_zoneAt_4 rfl (lv_at hl 1 rfl) ?_
    refine lv_aload_n hx hb d_Clk_zoneAt_5 rfl (lv_at hl 0 rfl) ?_
    refine g_get hx hb hk hown hK hP 0 rfl f_Clk_23 rfl d_Clk_zoneAt_6 ?_
    refine va_alen hx hb hK hP 1 4 rfl htz (v := iI 8) (show Int32.ofNat 8 = iI 8 from by decide) d_Clk_zoneAt_9 ?_
    refine ri_icmp_lt (tgt := 21) hx hb d_Clk_zoneAt_10 (by decide) (fun h10 => ?_) (fun h10 => ?_)
    · exfalso; omega
    · exact x_throw (rest := []) hx hb hlk (hml.trans hl.1.symm) hE hown hk hoff xw_Clk_41 hP hS hAS hZ d_Clk_zoneAt_13 d_Clk_zoneAt_16 d_Clk_zoneAt_17 d_Clk_zoneAt_20 (by rfl) rfl ⟨by decide, by decide, by decide, by decide⟩
abbrev rm_Clk_checkTime : Room := { frames := 0, cells := 0, slots := 0, locals := 0 }
set_option maxHeartbeats 4000000 in
set_option maxRecDepth 100000 in
theorem ct_Clk_checkTime (l : Launch) (D : va_G) (tys : List (ClassId × FieldType)) (t : Int) (gt1 : 0 ≤ t) (gt2 : t ≤ 10413791999999) : vMet l y_Clk_checkTime c_Clk_checkTime 2 none rm_Clk_checkTime D tys [.long (lL t)] [] := by
  refine vMet_of (by decide) (Nat.le_of_ble_eq_true rfl) ?_
  intro p e s m below meth c hx hb hr hown hlk hml hk hK hP hD ls hl
  have hl : lv_has ls 2 [(0, .long (lL t))] := hl
  refine lv_lload_n hx hb d_Clk_checkTime_0 rfl (lv_at hl 0 rfl) ?_
  refine lv_lconst (v := lL 0) hx hb d_Clk_checkTime_1 (by decide) ?_
  refine ri_lcmp_lt (tgt := 14) hx hb d_Clk_checkTime_2 d_Clk_checkTime_3 (by decide) (fun h2 => ?_) (fun h2 => ?_)
  · exfalso; omega
  · refine lv_lload_n hx hb d_Clk_checkTime_6 rfl (lv_at hl 0 rfl) ?_
    refine lv_ldc2 (v := lL 10413791999999) hx hb hown (hk _ kc_Clk_105 _) d_Clk_checkTime_7 ?_
    refine ri_lcmp_le (tgt := 22) hx hb d_Clk_checkTime_10 d_Clk_checkTime_11 (by decide) (fun h10 => ?_) (fun h10 => ?_)
    · exact p_vret hx hb hr hlk d_Clk_checkTime_22
    · exfalso; omega
abbrev rm_Clk_checkTime_x : Room := { frames := 6, cells := 1, slots := 6, locals := 100 }
set_option maxHeartbeats 4000000 in
set_option maxRecDepth 100000 in
theorem ct_Clk_checkTime_x (l : Launch) (D : va_G) (tys : List (ClassId × FieldType)) (aS : Nat) (hoff : l.stackTraces = false) (t : Int) (gi1 : -9223372036854775808 ≤ t) (gi2 : t ≤ 9223372036854775807) (gt : t < 0 ∨ 10413791999999 < t) : xMet l y_Clk_checkTime c_Clk_checkTime 2 none rm_Clk_checkTime_x D tys aS [.long (lL t)] [] none "java/lang/IllegalArgumentException" [] := by
  refine xMet_of (by decide) (Nat.le_of_ble_eq_true rfl) ?_
  intro p e s m below meth c hx hb hr hown hlk hml hE hk hK hP hD hS hAS hZ ls hl
  have hl : lv_has ls 2 [(0, .long (lL t))] := hl
  refine lv_lload_n hx hb d_Clk_checkTime_0 rfl (lv_at hl 0 rfl) ?_
  refine lv_lconst (v := lL 0) hx hb d_Clk_checkTime_1 (by decide) ?_
  refine ri_lcmp_lt (tgt := 14) hx hb d_Clk_checkTime_2 d_Clk_checkTime_3 (by decide) (fun h2 => ?_) (fun h2 => ?_)
  · exact x_throw (rest := []) hx hb hlk (hml.trans hl.1.symm) hE hown hk hoff xw_Clk_41 hP hS hAS hZ d_Clk_checkTime_14 d_Clk_checkTime_17 d_Clk_checkTime_18 d_Clk_checkTime_21 (by rfl) rfl ⟨by decide, by decide, by decide, by decide⟩
  · refine lv_lload_n hx hb d_Clk_checkTime_6 rfl (lv_at hl 0 rfl) ?_
    refine lv_ldc2 (v := lL 10413791999999) hx hb hown (hk _ kc_Clk_105 _) d_Clk_checkTime_7 ?_
    refine ri_lcmp_le (tgt := 22) hx hb d_Clk_checkTime_10 d_Clk_checkTime_11 (by decide) (fun h10 => ?_) (fun h10 => ?_)
    · exfalso; omega
    · exact x_throw (rest := []) hx hb hlk (hml.trans hl.1.symm) hE hown hk hoff xw_Clk_41 hP hS hAS hZ d_Clk_checkTime_14 d_Clk_checkTime_17 d_Clk_checkTime_18 d_Clk_checkTime_21 (by rfl) rfl ⟨by decide, by decide, by decide, by decide⟩
abbrev rm_Clk_local : Room := { frames := 6, cells := 0, slots := 0, locals := 141 }
set_option maxHeartbeats 4000000 in
set_option maxRecDepth 100000 in
theorem ct_Clk_local (l : Launch) (D : va_G) (tys : List (ClassId × FieldType)) (x : Nat) (tp : Nat) (dr : Nat) (za : Nat) (bp : Int) (cZ : ClassId) (aZ : Nat → Nat) (zi : Nat) (b0 : Nat) (e0 : Nat) (off : Int) (sv : Int) (b1 : Int) (b2 : Int) (b3 : Int) (b4 : Int) (e1 : Int) (e2 : Int) (e3 : Int) (e4 : Int) (t : Int) (htz : tys[4]? = some (cZ, .object "ZoneClock$Zone")) (gz : zi < 8) (go1 : -840 ≤ off) (go2 : off ≤ 840) (gs1 : 0 ≤ sv) (gs2 : sv ≤ 120) (gb : 0 < sv → rOk b1 b2 b3 b4) (ge : 0 < sv → rOk e1 e2 e3 e4) (gt1 : 0 ≤ t) (gt2 : t ≤ 10413791999999) : pMet l y_Clk_local c_Clk_local 5 (some .long) rm_Clk_local D tys [.ref x, .int (iI ((zi : Int))), .long (lL t)] [(x, .inr (3, [.ref tp, .ref dr, .ref za, .int (iI bp)])), (za, .inl (cZ, 8, .inr (.inr (.inr (.inr (fun k => some (aZ k))))))), (aZ zi, .inr (2, [.int (iI off), .int (iI sv), .ref b0, .ref e0])), (b0, .inr (0, [.int (iI b1), .int (iI b2), .int (iI b3), .int (iI b4)])), (e0, .inr (0, [.int (iI e1), .int (iI e2), .int (iI e3), .int (iI e4)]))] (.long (lL (t + cMin off sv (b1, b2, b3, b4) (e1, e2, e3, e4) t * 60000))) := by
  refine pMet_of (by decide) (Nat.le_of_ble_eq_true rfl) ?_
  intro p e s m below meth c hx hb hr hown hlk hml hk hK hP hD ls hl
  have hl : lv_has ls 5 [(0, .ref x), (1, .int (iI ((zi : Int)))), (2, .long (lL t))] := hl
  have gm := cMin_bd (b := (b1, b2, b3, b4)) (e := (e1, e2, e3, e4)) (t := t) go1 go2 gs1 gs2
  refine lv_aload_n hx hb d_Clk_local_0 rfl (lv_at hl 0 rfl) ?_
  refine lv_iload_n hx hb d_Clk_local_1 rfl (lv_at hl 1 rfl) ?_
  refine p_callV (rest := []) (q0 := 0) hx hb (hml.trans hl.1.symm) hown hk hK k_Clk_44 (ct_Clk_zoneAt l D tys x tp dr za bp cZ aZ zi htz (by omega)) (w_subP (is := [0, 1]) hP rfl) (w_subD (is := [0, 1]) hD rfl rfl) rfl rfl rfl rfl ⟨rfl, rfl⟩ ⟨by decide, by decide, by decide, by decide⟩ (Nat.le_of_ble_eq_true rfl) d_Clk_local_2 ?_
  refine lv_astore (lv' := [(4, .ref (aZ zi)), (0, .ref x), (1, .int (iI ((zi : Int)))), (2, .long (lL t))]) hx hb d_Clk_local_5 hl (by decide) rfl (fun ls hl => ?_)
  refine lv_lload_n hx hb d_Clk_local_7 rfl (lv_at hl 3 rfl) ?_
  refine v_callS (rest := []) hx hb (hml.trans hl.1.symm) hown hk hK k_Clk_59 (ct_Clk_checkTime l D tys t (by omega) (by omega)) nil_P nil_D rfl rfl ⟨rfl, rfl⟩ ⟨by decide, by decide, by decide, by decide⟩ (Nat.le_of_ble_eq_true rfl) d_Clk_local_8 ?_
  refine lv_lload_n hx hb d_Clk_local_11 rfl (lv_at hl 3 rfl) ?_
  refine lv_aload hx hb d_Clk_local_12 (lv_at hl 0 rfl) ?_
  refine lv_lload_n hx hb d_Clk_local_14 rfl (lv_at hl 3 rfl) ?_
  refine p_callV (rest := [.long (lL t)]) (q0 := 0) hx hb (hml.trans hl.1.symm) hown hk hK k_Clk_63 (ct_Zone_minutesAt l D tys (aZ zi) b0 e0 off sv b1 b2 b3 b4 e1 e2 e3 e4 t (by omega) (by omega) (by omega) (by omega) gb ge (by omega) (by omega)) (w_subP (is := [2, 3, 4]) hP rfl) (w_subD (is := [2, 3, 4]) hD rfl rfl) rfl rfl rfl rfl ⟨rfl, rfl⟩ ⟨by decide, by decide, by decide, by decide⟩ (Nat.le_of_ble_eq_true rfl) d_Clk_local_15 ?_
  refine ri_i2l hx hb d_Clk_local_18 ?_
  refine lv_ldc2 (v := lL 60000) hx hb hown (hk _ kc_Clk_67 _) d_Clk_local_19 ?_
  refine ri_lmul hx hb d_Clk_local_22 ?_
  refine ri_ladd hx hb d_Clk_local_23 ?_
  exact p_lret hx hb hr hlk d_Clk_local_24 (by rfl)
abbrev rm_Clk_many : Room := { frames := 6, cells := 0, slots := 0, locals := 141 }
set_option maxHeartbeats 4000000 in
set_option maxRecDepth 100000 in
theorem ct_Clk_many (l : Launch) (D : va_G) (tys : List (ClassId × FieldType)) (x : Nat) (tp : Nat) (dr : Nat) (za : Nat) (bp : Int) (cZ : ClassId) (aZ : Nat → Nat) (zi : Nat) (b0 : Nat) (e0 : Nat) (off : Int) (sv : Int) (b1 : Int) (b2 : Int) (b3 : Int) (b4 : Int) (e1 : Int) (e2 : Int) (e3 : Int) (e4 : Int) (t : Int) (htz : tys[4]? = some (cZ, .object "ZoneClock$Zone")) (gz : zi < 8) (go1 : -840 ≤ off) (go2 : off ≤ 840) (gs1 : 0 ≤ sv) (gs2 : sv ≤ 120) (gb : 0 < sv → rOk b1 b2 b3 b4) (ge : 0 < sv → rOk e1 e2 e3 e4) (gt1 : 0 ≤ t) (gt2 : t ≤ 10413791999999) : pMet l y_Clk_many c_Clk_many 7 (some .int) rm_Clk_many D tys [.ref x, .int (iI ((zi : Int))), .long (lL t)] [(x, .inr (3, [.ref tp, .ref dr, .ref za, .int (iI bp)])), (za, .inl (cZ, 8, .inr (.inr (.inr (.inr (fun k => some (aZ k))))))), (aZ zi, .inr (2, [.int (iI off), .int (iI sv), .ref b0, .ref e0])), (b0, .inr (0, [.int (iI b1), .int (iI b2), .int (iI b3), .int (iI b4)])), (e0, .inr (0, [.int (iI e1), .int (iI e2), .int (iI e3), .int (iI e4)]))] (.int (iI (aIn off sv (b1, b2, b3, b4) (e1, e2, e3, e4) t + aOut off sv (b1, b2, b3, b4) (e1, e2, e3, e4) t))) := by
  refine pMet_of (by decide) (Nat.le_of_ble_eq_true rfl) ?_
  intro p e s m below meth c hx hb hr hown hlk hml hk hK hP hD ls hl
  have hl : lv_has ls 7 [(0, .ref x), (1, .int (iI ((zi : Int)))), (2, .long (lL t))] := hl
  have gI := bI_b (cSum off sv (b1, b2, b3, b4) (e1, e2, e3, e4) (t - (off + sv) * 60000))
  have gO := bI_b (!cSum off sv (b1, b2, b3, b4) (e1, e2, e3, e4) (t - off * 60000))
  refine lv_aload_n hx hb d_Clk_many_0 rfl (lv_at hl 0 rfl) ?_
  refine lv_iload_n hx hb d_Clk_many_1 rfl (lv_at hl 1 rfl) ?_
  refine p_callV (rest := []) (q0 := 0) hx hb (hml.trans hl.1.symm) hown hk hK k_Clk_44 (ct_Clk_zoneAt l D tys x tp dr za bp cZ aZ zi htz (by omega)) (w_subP (is := [0, 1]) hP rfl) (w_subD (is := [0, 1]) hD rfl rfl) rfl rfl rfl rfl ⟨rfl, rfl⟩ ⟨by decide, by decide, by decide, by decide⟩ (Nat.le_of_ble_eq_true rfl) d_Clk_many_2 ?_
  refine lv_astore (lv' := [(4, .ref (aZ zi)), (0, .ref x), (1, .int (iI ((zi : Int)))), (2, .long (lL t))]) hx hb d_Clk_many_5 hl (by decide) rfl (fun ls hl => ?_)
  refine lv_lload_n hx hb d_Clk_many_7 rfl (lv_at hl 3 rfl) ?_
  refine v_callS (rest := []) hx hb (hml.trans hl.1.symm) hown hk hK k_Clk_59 (ct_Clk_checkTime l D tys t (by omega) (by omega)) nil_P nil_D rfl rfl ⟨rfl, rfl⟩ ⟨by decide, by decide, by decide, by decide⟩ (Nat.le_of_ble_eq_true rfl) d_Clk_many_8 ?_
  refine lv_aload hx hb d_Clk_many_11 (lv_at hl 0 rfl) ?_
  refine lv_lload_n hx hb d_Clk_many_13 rfl (lv_at hl 3 rfl) ?_
  refine p_callV (rest := []) (q0 := 0) hx hb (hml.trans hl.1.symm) hown hk hK k_Clk_69 (ct_Zone_isReadInSummer l D tys (aZ zi) b0 e0 off sv b1 b2 b3 b4 e1 e2 e3 e4 t (by omega) (by omega) (by omega) (by omega) gb ge (by omega) (by omega)) (w_subP (is := [2, 3, 4]) hP rfl) (w_subD (is := [2, 3, 4]) hD rfl rfl) rfl rfl rfl rfl ⟨rfl, rfl⟩ ⟨by decide, by decide, by decide, by decide⟩ (Nat.le_of_ble_eq_true rfl) d_Clk_many_14 ?_
  refine ri_if_eq (tgt := 24) hx hb d_Clk_many_17 (by decide) (fun h17 => ?_) (fun h17 => ?_)
  · refine lv_iconst (v := iI 0) hx hb d_Clk_many_24 rfl ?_
    refine lv_istore (lv' := [(5, .int (iI 0)), (4, .ref (aZ zi)), (0, .ref x), (1, .int (iI ((zi : Int)))), (2, .long (lL t))]) hx hb d_Clk_many_25 hl (by decide) rfl (fun ls hl => ?_)
    refine lv_aload hx hb d_Clk_many_27 (lv_at hl 1 rfl) ?_
    refine lv_lload_n hx hb d_Clk_many_29 rfl (lv_at hl 4 rfl) ?_
    refine p_callV (rest := []) (q0 := 0) hx hb (hml.trans hl.1.symm) hown hk hK k_Clk_73 (ct_Zone_isReadOutsideSummer l D tys (aZ zi) b0 e0 off sv b1 b2 b3 b4 e1 e2 e3 e4 t (by omega) (by omega) (by omega) (by omega) gb ge (by omega) (by omega)) (w_subP (is := [2, 3, 4]) hP rfl) (w_subD (is := [2, 3, 4]) hD rfl rfl) rfl rfl rfl rfl ⟨rfl, rfl⟩ ⟨by decide, by decide, by decide, by decide⟩ (Nat.le_of_ble_eq_true rfl) d_Clk_many_30 ?_
    refine ri_if_eq (tgt := 40) hx hb d_Clk_many_33 (by decide) (fun h33 => ?_) (fun h33 => ?_)
    · refine lv_iconst (v := iI 0) hx hb d_Clk_many_40 rfl ?_
      refine lv_istore (lv' := [(6, .int (iI 0)), (5, .int (iI 0)), (4, .ref (aZ zi)), (0, .ref x), (1, .int (iI ((zi : Int)))), (2, .long (lL t))]) hx hb d_Clk_many_41 hl (by decide) rfl (fun ls hl => ?_)
      refine lv_iload hx hb d_Clk_many_43 (lv_at hl 1 rfl) ?_
      refine lv_iload hx hb d_Clk_many_45 (lv_at hl 0 rfl) ?_
      refine ri_iadd hx hb d_Clk_many_47 ?_
      exact p_iret hx hb hr hlk d_Clk_many_48 (by unfold aIn aOut; omega)
    · refine lv_iconst (v := iI 1) hx hb d_Clk_many_36 rfl ?_
      refine lv_goto (tgt := 41) hx hb d_Clk_many_37 (by decide) ?_
      refine lv_istore (lv' := [(6, .int (iI 1)), (5, .int (iI 0)), (4, .ref (aZ zi)), (0, .ref x), (1, .int (iI ((zi : Int)))), (2, .long (lL t))]) hx hb d_Clk_many_41 hl (by decide) rfl (fun ls hl => ?_)
      refine lv_iload hx hb d_Clk_many_43 (lv_at hl 1 rfl) ?_
      refine lv_iload hx hb d_Clk_many_45 (lv_at hl 0 rfl) ?_
      refine ri_iadd hx hb d_Clk_many_47 ?_
      exact p_iret hx hb hr hlk d_Clk_many_48 (by unfold aIn aOut; omega)
  · refine lv_iconst (v := iI 1) hx hb d_Clk_many_20 rfl ?_
    refine lv_goto (tgt := 25) hx hb d_Clk_many_21 (by decide) ?_
    refine lv_istore (lv' := [(5, .int (iI 1)), (4, .ref (aZ zi)), (0, .ref x), (1, .int (iI ((zi : Int)))), (2, .long (lL t))]) hx hb d_Clk_many_25 hl (by decide) rfl (fun ls hl => ?_)
    refine lv_aload hx hb d_Clk_many_27 (lv_at hl 1 rfl) ?_
    refine lv_lload_n hx hb d_Clk_many_29 rfl (lv_at hl 4 rfl) ?_
    refine p_callV (rest := []) (q0 := 0) hx hb (hml.trans hl.1.symm) hown hk hK k_Clk_73 (ct_Zone_isReadOutsideSummer l D tys (aZ zi) b0 e0 off sv b1 b2 b3 b4 e1 e2 e3 e4 t (by omega) (by omega) (by omega) (by omega) gb ge (by omega) (by omega)) (w_subP (is := [2, 3, 4]) hP rfl) (w_subD (is := [2, 3, 4]) hD rfl rfl) rfl rfl rfl rfl ⟨rfl, rfl⟩ ⟨by decide, by decide, by decide, by decide⟩ (Nat.le_of_ble_eq_true rfl) d_Clk_many_30 ?_
    refine ri_if_eq (tgt := 40) hx hb d_Clk_many_33 (by decide) (fun h33 => ?_) (fun h33 => ?_)
    · refine lv_iconst (v := iI 0) hx hb d_Clk_many_40 rfl ?_
      refine lv_istore (lv' := [(6, .int (iI 0)), (5, .int (iI 1)), (4, .ref (aZ zi)), (0, .ref x), (1, .int (iI ((zi : Int)))), (2, .long (lL t))]) hx hb d_Clk_many_41 hl (by decide) rfl (fun ls hl => ?_)
      refine lv_iload hx hb d_Clk_many_43 (lv_at hl 1 rfl) ?_
      refine lv_iload hx hb d_Clk_many_45 (lv_at hl 0 rfl) ?_
      refine ri_iadd hx hb d_Clk_many_47 ?_
      exact p_iret hx hb hr hlk d_Clk_many_48 (by unfold aIn aOut; omega)
    · refine lv_iconst (v := iI 1) hx hb d_Clk_many_36 rfl ?_
      refine lv_goto (tgt := 41) hx hb d_Clk_many_37 (by decide) ?_
      refine lv_istore (lv' := [(6, .int (iI 1)), (5, .int (iI 1)), (4, .ref (aZ zi)), (0, .ref x), (1, .int (iI ((zi : Int)))), (2, .long (lL t))]) hx hb d_Clk_many_41 hl (by decide) rfl (fun ls hl => ?_)
      refine lv_iload hx hb d_Clk_many_43 (lv_at hl 1 rfl) ?_
      refine lv_iload hx hb d_Clk_many_45 (lv_at hl 0 rfl) ?_
      refine ri_iadd hx hb d_Clk_many_47 ?_
      exact p_iret hx hb hr hlk d_Clk_many_48 (by unfold aIn aOut; omega)
abbrev rm_Clk_universal : Room := { frames := 6, cells := 0, slots := 0, locals := 141 }
set_option maxHeartbeats 4000000 in
set_option maxRecDepth 100000 in
theorem ct_Clk_universal (l : Launch) (D : va_G) (tys : List (ClassId × FieldType)) (x : Nat) (tp : Nat) (dr : Nat) (za : Nat) (bp : Int) (cZ : ClassId) (aZ : Nat → Nat) (zi : Nat) (b0 : Nat) (e0 : Nat) (off : Int) (sv : Int) (b1 : Int) (b2 : Int) (b3 : Int) (b4 : Int) (e1 : Int) (e2 : Int) (e3 : Int) (e4 : Int) (t : Int) (lt : Bool) (htz : tys[4]? = some (cZ, .object "ZoneClock$Zone")) (gz : zi < 8) (go1 : -840 ≤ off) (go2 : off ≤ 840) (gs1 : 0 ≤ sv) (gs2 : sv ≤ 120) (gb : 0 < sv → rOk b1 b2 b3 b4) (ge : 0 < sv → rOk e1 e2 e3 e4) (gt1 : 0 ≤ t) (gt2 : t ≤ 10413791999999) (gq : aIn off sv (b1, b2, b3, b4) (e1, e2, e3, e4) t + aOut off sv (b1, b2, b3, b4) (e1, e2, e3, e4) t ≠ 0) : pMet l y_Clk_universal c_Clk_universal 9 (some .long) rm_Clk_universal D tys [.ref x, .int (iI ((zi : Int))), .long (lL t), .int (iI (bI lt))] [(x, .inr (3, [.ref tp, .ref dr, .ref za, .int (iI bp)])), (za, .inl (cZ, 8, .inr (.inr (.inr (.inr (fun k => some (aZ k))))))), (aZ zi, .inr (2, [.int (iI off), .int (iI sv), .ref b0, .ref e0])), (b0, .inr (0, [.int (iI b1), .int (iI b2), .int (iI b3), .int (iI b4)])), (e0, .inr (0, [.int (iI e1), .int (iI e2), .int (iI e3), .int (iI e4)]))] (.long (lL (aUni off sv (b1, b2, b3, b4) (e1, e2, e3, e4) t lt))) := by
  refine pMet_of (by decide) (Nat.le_of_ble_eq_true rfl) ?_
  intro p e s m below meth c hx hb hr hown hlk hml hk hK hP hD ls hl
  have hl : lv_has ls 9 [(0, .ref x), (1, .int (iI ((zi : Int)))), (2, .long (lL t)), (4, .int (iI (bI lt)))] := hl
  have gI := bI_b (cSum off sv (b1, b2, b3, b4) (e1, e2, e3, e4) (t - (off + sv) * 60000))
  have gO := bI_b (!cSum off sv (b1, b2, b3, b4) (e1, e2, e3, e4) (t - off * 60000))
  have gL := bI_b lt
  unfold aIn aOut at gq
  refine lv_aload_n hx hb d_Clk_universal_0 rfl (lv_at hl 0 rfl) ?_
  refine lv_iload_n hx hb d_Clk_universal_1 rfl (lv_at hl 1 rfl) ?_
  refine p_callV (rest := []) (q0 := 0) hx hb (hml.trans hl.1.symm) hown hk hK k_Clk_44 (ct_Clk_zoneAt l D tys x tp dr za bp cZ aZ zi htz (by omega)) (w_subP (is := [0, 1]) hP rfl) (w_subD (is := [0, 1]) hD rfl rfl) rfl rfl rfl rfl ⟨rfl, rfl⟩ ⟨by decide, by decide, by decide, by decide⟩ (Nat.le_of_ble_eq_true rfl) d_Clk_universal_2 ?_
  refine lv_astore (lv' := [(5, .ref (aZ zi)), (0, .ref x), (1, .int (iI ((zi : Int)))), (2, .long (lL t)), (4, .int (iI (bI lt)))]) hx hb d_Clk_universal_5 hl (by decide) rfl (fun ls hl => ?_)
  refine lv_lload_n hx hb d_Clk_universal_7 rfl (lv_at hl 3 rfl) ?_
  refine v_callS (rest := []) hx hb (hml.trans hl.1.symm) hown hk hK k_Clk_59 (ct_Clk_checkTime l D tys t (by omega) (by omega)) nil_P nil_D rfl rfl ⟨rfl, rfl⟩ ⟨by decide, by decide, by decide, by decide⟩ (Nat.le_of_ble_eq_true rfl) d_Clk_universal_8 ?_
  refine lv_aload hx hb d_Clk_universal_11 (lv_at hl 0 rfl) ?_
  refine lv_lload_n hx hb d_Clk_universal_13 rfl (lv_at hl 3 rfl) ?_
  refine p_callV (rest := []) (q0 := 0) hx hb (hml.trans hl.1.symm) hown hk hK k_Clk_69 (ct_Zone_isReadInSummer l D tys (aZ zi) b0 e0 off sv b1 b2 b3 b4 e1 e2 e3 e4 t (by omega) (by omega) (by omega) (by omega) gb ge (by omega) (by omega)) (w_subP (is := [2, 3, 4]) hP rfl) (w_subD (is := [2, 3, 4]) hD rfl rfl) rfl rfl rfl rfl ⟨rfl, rfl⟩ ⟨by decide, by decide, by decide, by decide⟩ (Nat.le_of_ble_eq_true rfl) d_Clk_universal_14 ?_
  refine lv_istore (lv' := [(6, .int (iI (bI (cSum off sv (b1, b2, b3, b4) (e1, e2, e3, e4) (t - (off + sv) * 60000))))), (5, .ref (aZ zi)), (0, .ref x), (1, .int (iI ((zi : Int)))), (2, .long (lL t)), (4, .int (iI (bI lt)))]) hx hb d_Clk_universal_17 hl (by decide) rfl (fun ls hl => ?_)
  refine lv_aload hx hb d_Clk_universal_19 (lv_at hl 1 rfl) ?_
  refine lv_lload_n hx hb d_Clk_universal_21 rfl (lv_at hl 4 rfl) ?_
  refine p_callV (rest := []) (q0 := 0) hx hb (hml.trans hl.1.symm) hown hk hK k_Clk_73 (ct_Zone_isReadOutsideSummer l D tys (aZ zi) b0 e0 off sv b1 b2 b3 b4 e1 e2 e3 e4 t (by omega) (by omega) (by omega) (by omega) gb ge (by omega) (by omega)) (w_subP (is := [2, 3, 4]) hP rfl) (w_subD (is := [2, 3, 4]) hD rfl rfl) rfl rfl rfl rfl ⟨rfl, rfl⟩ ⟨by decide, by decide, by decide, by decide⟩ (Nat.le_of_ble_eq_true rfl) d_Clk_universal_22 ?_
  refine lv_istore (lv' := [(7, .int (iI (bI (!cSum off sv (b1, b2, b3, b4) (e1, e2, e3, e4) (t - off * 60000))))), (6, .int (iI (bI (cSum off sv (b1, b2, b3, b4) (e1, e2, e3, e4) (t - (off + sv) * 60000))))), (5, .ref (aZ zi)), (0, .ref x), (1, .int (iI ((zi : Int)))), (2, .long (lL t)), (4, .int (iI (bI lt)))]) hx hb d_Clk_universal_25 hl (by decide) rfl (fun ls hl => ?_)
  refine lv_iload hx hb d_Clk_universal_27 (lv_at hl 1 rfl) ?_
  refine ri_if_ne (tgt := 45) hx hb d_Clk_universal_29 (by decide) (fun h29 => ?_) (fun h29 => ?_)
  · refine lv_iload hx hb d_Clk_universal_45 (lv_at hl 1 rfl) ?_
    refine ri_if_eq (tgt := 64) hx hb d_Clk_universal_47 (by decide) (fun h47 => ?_) (fun h47 => ?_)
    · refine lv_iconst (v := iI 0) hx hb d_Clk_universal_64 rfl ?_
      refine lv_istore (lv' := [(8, .int (iI 0)), (7, .int (iI (bI (!cSum off sv (b1, b2, b3, b4) (e1, e2, e3, e4) (t - off * 60000))))), (6, .int (iI (bI (cSum off sv (b1, b2, b3, b4) (e1, e2, e3, e4) (t - (off + sv) * 60000))))), (5, .ref (aZ zi)), (0, .ref x), (1, .int (iI ((zi : Int)))), (2, .long (lL t)), (4, .int (iI (bI lt)))]) hx hb d_Clk_universal_65 hl (by decide) rfl (fun ls hl => ?_)
      refine lv_iload hx hb d_Clk_universal_67 (lv_at hl 0 rfl) ?_
      refine ri_if_eq (tgt := 81) hx hb d_Clk_universal_69 (by decide) (fun h69 => ?_) (fun h69 => ?_)
      · refine lv_aload hx hb d_Clk_universal_81 (lv_at hl 3 rfl) ?_
        refine lv_lload_n hx hb d_Clk_universal_83 rfl (lv_at hl 6 rfl) ?_
        refine p_callV (rest := []) (q0 := 0) hx hb (hml.trans hl.1.symm) hown hk hK k_Clk_83 (ct_Zone_fromPlainReading l D tys (aZ zi) b0 e0 off sv b1 b2 b3 b4 e1 e2 e3 e4 t (by omega) (by omega) (by omega) (by omega) (by omega) (by omega)) (w_subP (is := [2, 3, 4]) hP rfl) (w_subD (is := [2, 3, 4]) hD rfl rfl) rfl rfl rfl rfl ⟨rfl, rfl⟩ ⟨by decide, by decide, by decide, by decide⟩ (Nat.le_of_ble_eq_true rfl) d_Clk_universal_84 ?_
        exact p_lret hx hb hr hlk d_Clk_universal_87 (by first | (exfalso; omega) | (unfold aUni aIn aOut; first | rw [if_pos (by omega)] | rw [if_neg (by omega)]))
      · exfalso; omega
    · refine lv_iload hx hb d_Clk_universal_50 (lv_at hl 6 rfl) ?_
      refine ri_if_eq (tgt := 60) hx hb d_Clk_universal_52 (by decide) (fun h52 => ?_) (fun h52 => ?_)
      · refine lv_iconst (v := iI 1) hx hb d_Clk_universal_60 rfl ?_
        refine lv_goto (tgt := 65) hx hb d_Clk_universal_61 (by decide) ?_
        refine lv_istore (lv' := [(8, .int (iI 1)), (7, .int (iI (bI (!cSum off sv (b1, b2, b3, b4) (e1, e2, e3, e4) (t - off * 60000))))), (6, .int (iI (bI (cSum off sv (b1, b2, b3, b4) (e1, e2, e3, e4) (t - (off + sv) * 60000))))), (5, .ref (aZ zi)), (0, .ref x), (1, .int (iI ((zi : Int)))), (2, .long (lL t)), (4, .int (iI (bI lt)))]) hx hb d_Clk_universal_65 hl (by decide) rfl (fun ls hl => ?_)
        refine lv_iload hx hb d_Clk_universal_67 (lv_at hl 0 rfl) ?_
        refine ri_if_eq (tgt := 81) hx hb d_Clk_universal_69 (by decide) (fun h69 => ?_) (fun h69 => ?_)
        · exfalso; omega
        · refine lv_aload hx hb d_Clk_universal_72 (lv_at hl 3 rfl) ?_
          refine lv_lload_n hx hb d_Clk_universal_74 rfl (lv_at hl 6 rfl) ?_
          refine p_callV (rest := []) (q0 := 0) hx hb (hml.trans hl.1.symm) hown hk hK k_Clk_79 (ct_Zone_fromSummerReading l D tys (aZ zi) b0 e0 off sv b1 b2 b3 b4 e1 e2 e3 e4 t (by omega) (by omega) (by omega) (by omega) (by omega) (by omega)) (w_subP (is := [2, 3, 4]) hP rfl) (w_subD (is := [2, 3, 4]) hD rfl rfl) rfl rfl rfl rfl ⟨rfl, rfl⟩ ⟨by decide, by decide, by decide, by decide⟩ (Nat.le_of_ble_eq_true rfl) d_Clk_universal_75 ?_
          refine lv_goto (tgt := 87) hx hb d_Clk_universal_78 (by decide) ?_
          exact p_lret hx hb hr hlk d_Clk_universal_87 (by first | (exfalso; omega) | (unfold aUni aIn aOut; first | rw [if_pos (by omega)] | rw [if_neg (by omega)]))
      · refine lv_iload hx hb d_Clk_universal_55 (lv_at hl 0 rfl) ?_
        refine ri_if_ne (tgt := 64) hx hb d_Clk_universal_57 (by decide) (fun h57 => ?_) (fun h57 => ?_)
        · refine lv_iconst (v := iI 0) hx hb d_Clk_universal_64 rfl ?_
          refine lv_istore (lv' := [(8, .int (iI 0)), (7, .int (iI (bI (!cSum off sv (b1, b2, b3, b4) (e1, e2, e3, e4) (t - off * 60000))))), (6, .int (iI (bI (cSum off sv (b1, b2, b3, b4) (e1, e2, e3, e4) (t - (off + sv) * 60000))))), (5, .ref (aZ zi)), (0, .ref x), (1, .int (iI ((zi : Int)))), (2, .long (lL t)), (4, .int (iI (bI lt)))]) hx hb d_Clk_universal_65 hl (by decide) rfl (fun ls hl => ?_)
          refine lv_iload hx hb d_Clk_universal_67 (lv_at hl 0 rfl) ?_
          refine ri_if_eq (tgt := 81) hx hb d_Clk_universal_69 (by decide) (fun h69 => ?_) (fun h69 => ?_)
          · refine lv_aload hx hb d_Clk_universal_81 (lv_at hl 3 rfl) ?_
            refine lv_lload_n hx hb d_Clk_universal_83 rfl (lv_at hl 6 rfl) ?_
            refine p_callV (rest := []) (q0 := 0) hx hb (hml.trans hl.1.symm) hown hk hK k_Clk_83 (ct_Zone_fromPlainReading l D tys (aZ zi) b0 e0 off sv b1 b2 b3 b4 e1 e2 e3 e4 t (by omega) (by omega) (by omega) (by omega) (by omega) (by omega)) (w_subP (is := [2, 3, 4]) hP rfl) (w_subD (is := [2, 3, 4]) hD rfl rfl) rfl rfl rfl rfl ⟨rfl, rfl⟩ ⟨by decide, by decide, by decide, by decide⟩ (Nat.le_of_ble_eq_true rfl) d_Clk_universal_84 ?_
            exact p_lret hx hb hr hlk d_Clk_universal_87 (by first | (exfalso; omega) | (unfold aUni aIn aOut; first | rw [if_pos (by omega)] | rw [if_neg (by omega)]))
          · exfalso; omega
        · refine lv_iconst (v := iI 1) hx hb d_Clk_universal_60 rfl ?_
          refine lv_goto (tgt := 65) hx hb d_Clk_universal_61 (by decide) ?_
          refine lv_istore (lv' := [(8, .int (iI 1)), (7, .int (iI (bI (!cSum off sv (b1, b2, b3, b4) (e1, e2, e3, e4) (t - off * 60000))))), (6, .int (iI (bI (cSum off sv (b1, b2, b3, b4) (e1, e2, e3, e4) (t - (off + sv) * 60000))))), (5, .ref (aZ zi)), (0, .ref x), (1, .int (iI ((zi : Int)))), (2, .long (lL t)), (4, .int (iI (bI lt)))]) hx hb d_Clk_universal_65 hl (by decide) rfl (fun ls hl => ?_)
          refine lv_iload hx hb d_Clk_universal_67 (lv_at hl 0 rfl) ?_
          refine ri_if_eq (tgt := 81) hx hb d_Clk_universal_69 (by decide) (fun h69 => ?_) (fun h69 => ?_)
          · exfalso; omega
          · refine lv_aload hx hb d_Clk_universal_72 (lv_at hl 3 rfl) ?_
            refine lv_lload_n hx hb d_Clk_universal_74 rfl (lv_at hl 6 rfl) ?_
            refine p_callV (rest := []) (q0 := 0) hx hb (hml.trans hl.1.symm) hown hk hK k_Clk_79 (ct_Zone_fromSummerReading l D tys (aZ zi) b0 e0 off sv b1 b2 b3 b4 e1 e2 e3 e4 t (by omega) (by omega) (by omega) (by omega) (by omega) (by omega)) (w_subP (is := [2, 3, 4]) hP rfl) (w_subD (is := [2, 3, 4]) hD rfl rfl) rfl rfl rfl rfl ⟨rfl, rfl⟩ ⟨by decide, by decide, by decide, by decide⟩ (Nat.le_of_ble_eq_true rfl) d_Clk_universal_75 ?_
            refine lv_goto (tgt := 87) hx hb d_Clk_universal_78 (by decide) ?_
            exact p_lret hx hb hr hlk d_Clk_universal_87 (by first | (exfalso; omega) | (unfold aUni aIn aOut; first | rw [if_pos (by omega)] | rw [if_neg (by omega)]))
  · refine lv_iload hx hb d_Clk_universal_32 (lv_at hl 0 rfl) ?_
    refine ri_if_ne (tgt := 45) hx hb d_Clk_universal_34 (by decide) (fun h34 => ?_) (fun h34 => ?_)
    · refine lv_iload hx hb d_Clk_universal_45 (lv_at hl 1 rfl) ?_
      refine ri_if_eq (tgt := 64) hx hb d_Clk_universal_47 (by decide) (fun h47 => ?_) (fun h47 => ?_)
      · refine lv_iconst (v := iI 0) hx hb d_Clk_universal_64 rfl ?_
        refine lv_istore (lv' := [(8, .int (iI 0)), (7, .int (iI (bI (!cSum off sv (b1, b2, b3, b4) (e1, e2, e3, e4) (t - off * 60000))))), (6, .int (iI (bI (cSum off sv (b1, b2, b3, b4) (e1, e2, e3, e4) (t - (off + sv) * 60000))))), (5, .ref (aZ zi)), (0, .ref x), (1, .int (iI ((zi : Int)))), (2, .long (lL t)), (4, .int (iI (bI lt)))]) hx hb d_Clk_universal_65 hl (by decide) rfl (fun ls hl => ?_)
        refine lv_iload hx hb d_Clk_universal_67 (lv_at hl 0 rfl) ?_
        refine ri_if_eq (tgt := 81) hx hb d_Clk_universal_69 (by decide) (fun h69 => ?_) (fun h69 => ?_)
        · refine lv_aload hx hb d_Clk_universal_81 (lv_at hl 3 rfl) ?_
          refine lv_lload_n hx hb d_Clk_universal_83 rfl (lv_at hl 6 rfl) ?_
          refine p_callV (rest := []) (q0 := 0) hx hb (hml.trans hl.1.symm) hown hk hK k_Clk_83 (ct_Zone_fromPlainReading l D tys (aZ zi) b0 e0 off sv b1 b2 b3 b4 e1 e2 e3 e4 t (by omega) (by omega) (by omega) (by omega) (by omega) (by omega)) (w_subP (is := [2, 3, 4]) hP rfl) (w_subD (is := [2, 3, 4]) hD rfl rfl) rfl rfl rfl rfl ⟨rfl, rfl⟩ ⟨by decide, by decide, by decide, by decide⟩ (Nat.le_of_ble_eq_true rfl) d_Clk_universal_84 ?_
          exact p_lret hx hb hr hlk d_Clk_universal_87 (by first | (exfalso; omega) | (unfold aUni aIn aOut; first | rw [if_pos (by omega)] | rw [if_neg (by omega)]))
        · exfalso; omega
      · refine lv_iload hx hb d_Clk_universal_50 (lv_at hl 6 rfl) ?_
        refine ri_if_eq (tgt := 60) hx hb d_Clk_universal_52 (by decide) (fun h52 => ?_) (fun h52 => ?_)
        · refine lv_iconst (v := iI 1) hx hb d_Clk_universal_60 rfl ?_
          refine lv_goto (tgt := 65) hx hb d_Clk_universal_61 (by decide) ?_
          refine lv_istore (lv' := [(8, .int (iI 1)), (7, .int (iI (bI (!cSum off sv (b1, b2, b3, b4) (e1, e2, e3, e4) (t - off * 60000))))), (6, .int (iI (bI (cSum off sv (b1, b2, b3, b4) (e1, e2, e3, e4) (t - (off + sv) * 60000))))), (5, .ref (aZ zi)), (0, .ref x), (1, .int (iI ((zi : Int)))), (2, .long (lL t)), (4, .int (iI (bI lt)))]) hx hb d_Clk_universal_65 hl (by decide) rfl (fun ls hl => ?_)
          refine lv_iload hx hb d_Clk_universal_67 (lv_at hl 0 rfl) ?_
          refine ri_if_eq (tgt := 81) hx hb d_Clk_universal_69 (by decide) (fun h69 => ?_) (fun h69 => ?_)
          · exfalso; omega
          · refine lv_aload hx hb d_Clk_universal_72 (lv_at hl 3 rfl) ?_
            refine lv_lload_n hx hb d_Clk_universal_74 rfl (lv_at hl 6 rfl) ?_
            refine p_callV (rest := []) (q0 := 0) hx hb (hml.trans hl.1.symm) hown hk hK k_Clk_79 (ct_Zone_fromSummerReading l D tys (aZ zi) b0 e0 off sv b1 b2 b3 b4 e1 e2 e3 e4 t (by omega) (by omega) (by omega) (by omega) (by omega) (by omega)) (w_subP (is := [2, 3, 4]) hP rfl) (w_subD (is := [2, 3, 4]) hD rfl rfl) rfl rfl rfl rfl ⟨rfl, rfl⟩ ⟨by decide, by decide, by decide, by decide⟩ (Nat.le_of_ble_eq_true rfl) d_Clk_universal_75 ?_
            refine lv_goto (tgt := 87) hx hb d_Clk_universal_78 (by decide) ?_
            exact p_lret hx hb hr hlk d_Clk_universal_87 (by first | (exfalso; omega) | (unfold aUni aIn aOut; first | rw [if_pos (by omega)] | rw [if_neg (by omega)]))
        · refine lv_iload hx hb d_Clk_universal_55 (lv_at hl 0 rfl) ?_
          refine ri_if_ne (tgt := 64) hx hb d_Clk_universal_57 (by decide) (fun h57 => ?_) (fun h57 => ?_)
          · refine lv_iconst (v := iI 0) hx hb d_Clk_universal_64 rfl ?_
            refine lv_istore (lv' := [(8, .int (iI 0)), (7, .int (iI (bI (!cSum off sv (b1, b2, b3, b4) (e1, e2, e3, e4) (t - off * 60000))))), (6, .int (iI (bI (cSum off sv (b1, b2, b3, b4) (e1, e2, e3, e4) (t - (off + sv) * 60000))))), (5, .ref (aZ zi)), (0, .ref x), (1, .int (iI ((zi : Int)))), (2, .long (lL t)), (4, .int (iI (bI lt)))]) hx hb d_Clk_universal_65 hl (by decide) rfl (fun ls hl => ?_)
            refine lv_iload hx hb d_Clk_universal_67 (lv_at hl 0 rfl) ?_
            refine ri_if_eq (tgt := 81) hx hb d_Clk_universal_69 (by decide) (fun h69 => ?_) (fun h69 => ?_)
            · refine lv_aload hx hb d_Clk_universal_81 (lv_at hl 3 rfl) ?_
              refine lv_lload_n hx hb d_Clk_universal_83 rfl (lv_at hl 6 rfl) ?_
              refine p_callV (rest := []) (q0 := 0) hx hb (hml.trans hl.1.symm) hown hk hK k_Clk_83 (ct_Zone_fromPlainReading l D tys (aZ zi) b0 e0 off sv b1 b2 b3 b4 e1 e2 e3 e4 t (by omega) (by omega) (by omega) (by omega) (by omega) (by omega)) (w_subP (is := [2, 3, 4]) hP rfl) (w_subD (is := [2, 3, 4]) hD rfl rfl) rfl rfl rfl rfl ⟨rfl, rfl⟩ ⟨by decide, by decide, by decide, by decide⟩ (Nat.le_of_ble_eq_true rfl) d_Clk_universal_84 ?_
              exact p_lret hx hb hr hlk d_Clk_universal_87 (by first | (exfalso; omega) | (unfold aUni aIn aOut; first | rw [if_pos (by omega)] | rw [if_neg (by omega)]))
            · exfalso; omega
          · refine lv_iconst (v := iI 1) hx hb d_Clk_universal_60 rfl ?_
            refine lv_goto (tgt := 65) hx hb d_Clk_universal_61 (by decide) ?_
            refine lv_istore (lv' := [(8, .int (iI 1)), (7, .int (iI (bI (!cSum off sv (b1, b2, b3, b4) (e1, e2, e3, e4) (t - off * 60000))))), (6, .int (iI (bI (cSum off sv (b1, b2, b3, b4) (e1, e2, e3, e4) (t - (off + sv) * 60000))))), (5, .ref (aZ zi)), (0, .ref x), (1, .int (iI ((zi : Int)))), (2, .long (lL t)), (4, .int (iI (bI lt)))]) hx hb d_Clk_universal_65 hl (by decide) rfl (fun ls hl => ?_)
            refine lv_iload hx hb d_Clk_universal_67 (lv_at hl 0 rfl) ?_
            refine ri_if_eq (tgt := 81) hx hb d_Clk_universal_69 (by decide) (fun h69 => ?_) (fun h69 => ?_)
            · exfalso; omega
            · refine lv_aload hx hb d_Clk_universal_72 (lv_at hl 3 rfl) ?_
              refine lv_lload_n hx hb d_Clk_universal_74 rfl (lv_at hl 6 rfl) ?_
              refine p_callV (rest := []) (q0 := 0) hx hb (hml.trans hl.1.symm) hown hk hK k_Clk_79 (ct_Zone_fromSummerReading l D tys (aZ zi) b0 e0 off sv b1 b2 b3 b4 e1 e2 e3 e4 t (by omega) (by omega) (by omega) (by omega) (by omega) (by omega)) (w_subP (is := [2, 3, 4]) hP rfl) (w_subD (is := [2, 3, 4]) hD rfl rfl) rfl rfl rfl rfl ⟨rfl, rfl⟩ ⟨by decide, by decide, by decide, by decide⟩ (Nat.le_of_ble_eq_true rfl) d_Clk_universal_75 ?_
              refine lv_goto (tgt := 87) hx hb d_Clk_universal_78 (by decide) ?_
              exact p_lret hx hb hr hlk d_Clk_universal_87 (by first | (exfalso; omega) | (unfold aUni aIn aOut; first | rw [if_pos (by omega)] | rw [if_neg (by omega)]))
    · exfalso; omega
abbrev rm_Clk_change : Room := { frames := 6, cells := 0, slots := 0, locals := 141 }
set_option maxHeartbeats 4000000 in
set_option maxRecDepth 100000 in
theorem ct_Clk_change (l : Launch) (D : va_G) (tys : List (ClassId × FieldType)) (x : Nat) (tp : Nat) (dr : Nat) (za : Nat) (bp : Int) (cZ : ClassId) (aZ : Nat → Nat) (zi : Nat) (b0 : Nat) (e0 : Nat) (off : Int) (sv : Int) (b1 : Int) (b2 : Int) (b3 : Int) (b4 : Int) (e1 : Int) (e2 : Int) (e3 : Int) (e4 : Int) (t : Int) (bk : Bool) (htz : tys[4]? = some (cZ, .object "ZoneClock$Zone")) (gz : zi < 8) (go1 : -840 ≤ off) (go2 : off ≤ 840) (gs1 : 0 ≤ sv) (gs2 : sv ≤ 120) (gb : 0 < sv → rOk b1 b2 b3 b4) (ge : 0 < sv → rOk e1 e2 e3 e4) (gt1 : 0 ≤ t) (gt2 : t ≤ 10413791999999) : pMet l y_Clk_change c_Clk_change 8 (some .long) rm_Clk_change D tys [.ref x, .int (iI ((zi : Int))), .long (lL t), .int (iI (bI bk))] [(x, .inr (3, [.ref tp, .ref dr, .ref za, .int (iI bp)])), (za, .inl (cZ, 8, .inr (.inr (.inr (.inr (fun k => some (aZ k))))))), (aZ zi, .inr (2, [.int (iI off), .int (iI sv), .ref b0, .ref e0])), (b0, .inr (0, [.int (iI b1), .int (iI b2), .int (iI b3), .int (iI b4)])), (e0, .inr (0, [.int (iI e1), .int (iI e2), .int (iI e3), .int (iI e4)]))] (.long (lL (aChg off sv (b1, b2, b3, b4) (e1, e2, e3, e4) t bk))) := by
  refine pMet_of (by decide) (Nat.le_of_ble_eq_true rfl) ?_
  intro p e s m below meth c hx hb hr hown hlk hml hk hK hP hD ls hl
  have hl : lv_has ls 8 [(0, .ref x), (1, .int (iI ((zi : Int)))), (2, .long (lL t)), (4, .int (iI (bI bk)))] := hl
  have g1 := cBack_bd (t := t) go1 go2 gs1 gs2 gb ge (by omega) (by omega)
  have g2 := cFwd_bd (t := t) go1 go2 gs1 gs2 gb ge (by omega) (by omega)
  have gL := bI_b bk
  refine lv_aload_n hx hb d_Clk_change_0 rfl (lv_at hl 0 rfl) ?_
  refine lv_iload_n hx hb d_Clk_change_1 rfl (lv_at hl 1 rfl) ?_
  refine p_callV (rest := []) (q0 := 0) hx hb (hml.trans hl.1.symm) hown hk hK k_Clk_44 (ct_Clk_zoneAt l D tys x tp dr za bp cZ aZ zi htz (by omega)) (w_subP (is := [0, 1]) hP rfl) (w_subD (is := [0, 1]) hD rfl rfl) rfl rfl rfl rfl ⟨rfl, rfl⟩ ⟨by decide, by decide, by decide, by decide⟩ (Nat.le_of_ble_eq_true rfl) d_Clk_change_2 ?_
  refine lv_astore (lv' := [(5, .ref (aZ zi)), (0, .ref x), (1, .int (iI ((zi : Int)))), (2, .long (lL t)), (4, .int (iI (bI bk)))]) hx hb d_Clk_change_5 hl (by decide) rfl (fun ls hl => ?_)
  refine lv_lload_n hx hb d_Clk_change_7 rfl (lv_at hl 3 rfl) ?_
  refine v_callS (rest := []) hx hb (hml.trans hl.1.symm) hown hk hK k_Clk_59 (ct_Clk_checkTime l D tys t (by omega) (by omega)) nil_P nil_D rfl rfl ⟨rfl, rfl⟩ ⟨by decide, by decide, by decide, by decide⟩ (Nat.le_of_ble_eq_true rfl) d_Clk_change_8 ?_
  refine lv_iload hx hb d_Clk_change_11 (lv_at hl 4 rfl) ?_
  refine ri_if_eq (tgt := 25) hx hb d_Clk_change_13 (by decide) (fun h13 => ?_) (fun h13 => ?_)
  · refine lv_aload hx hb d_Clk_change_25 (lv_at hl 0 rfl) ?_
    refine lv_lload_n hx hb d_Clk_change_27 rfl (lv_at hl 3 rfl) ?_
    refine p_callV (rest := []) (q0 := 0) hx hb (hml.trans hl.1.symm) hown hk hK k_Clk_89 (ct_Zone_firstChangeBehind l D tys (aZ zi) b0 e0 off sv b1 b2 b3 b4 e1 e2 e3 e4 t (by omega) (by omega) (by omega) (by omega) gb ge (by omega) (by omega)) (w_subP (is := [2, 3, 4]) hP rfl) (w_subD (is := [2, 3, 4]) hD rfl rfl) rfl rfl rfl rfl ⟨rfl, rfl⟩ ⟨by decide, by decide, by decide, by decide⟩ (Nat.le_of_ble_eq_true rfl) d_Clk_change_28 ?_
    refine lv_lstore (lv' := [(6, .long (lL (cFwd off sv (b1, b2, b3, b4) (e1, e2, e3, e4) t))), (5, .ref (aZ zi)), (0, .ref x), (1, .int (iI ((zi : Int)))), (2, .long (lL t)), (4, .int (iI (bI bk)))]) hx hb d_Clk_change_31 hl (by decide) rfl (fun ls hl => ?_)
    refine lv_lload hx hb d_Clk_change_33 (lv_at hl 0 rfl) ?_
    refine lv_lconst (v := lL 0) hx hb d_Clk_change_35 (by decide) ?_
    refine ri_lcmp_lt (tgt := 49) hx hb d_Clk_change_36 d_Clk_change_37 (by decide) (fun h36 => ?_) (fun h36 => ?_)
    · refine lv_ldc2 (v := lL (-1)) hx hb hown (hk _ kc_Clk_94 _) d_Clk_change_49 ?_
      refine lv_goto (tgt := 57) hx hb d_Clk_change_52 (by decide) ?_
      exact p_lret hx hb hr hlk d_Clk_change_57 (by unfold aChg cTell; first | (rw [if_pos h13, if_pos (by omega)]; done) | (rw [if_pos h13, if_neg (by omega)]; done) | (rw [if_neg h13, if_pos (by omega)]; done) | (rw [if_neg h13, if_neg (by omega)]; done))
    · refine lv_lload hx hb d_Clk_change_40 (lv_at hl 0 rfl) ?_
      refine lv_ldc2 (v := lL 1000000000000000) hx hb hown (hk _ kc_Clk_92 _) d_Clk_change_42 ?_
      refine ri_lcmp_ne (tgt := 55) hx hb d_Clk_change_45 d_Clk_change_46 (by decide) (fun h45 => ?_) (fun h45 => ?_)
      · refine lv_lload hx hb d_Clk_change_55 (lv_at hl 0 rfl) ?_
        exact p_lret hx hb hr hlk d_Clk_change_57 (by unfold aChg cTell; first | (rw [if_pos h13, if_pos (by omega)]; done) | (rw [if_pos h13, if_neg (by omega)]; done) | (rw [if_neg h13, if_pos (by omega)]; done) | (rw [if_neg h13, if_neg (by omega)]; done))
      · refine lv_ldc2 (v := lL (-1)) hx hb hown (hk _ kc_Clk_94 _) d_Clk_change_49 ?_
        refine lv_goto (tgt := 57) hx hb d_Clk_change_52 (by decide) ?_
        exact p_lret hx hb hr hlk d_Clk_change_57 (by unfold aChg cTell; first | (rw [if_pos h13, if_pos (by omega)]; done) | (rw [if_pos h13, if_neg (by omega)]; done) | (rw [if_neg h13, if_pos (by omega)]; done) | (rw [if_neg h13, if_neg (by omega)]; done))
  · refine lv_aload hx hb d_Clk_change_16 (lv_at hl 0 rfl) ?_
    refine lv_lload_n hx hb d_Clk_change_18 rfl (lv_at hl 3 rfl) ?_
    refine p_callV (rest := []) (q0 := 0) hx hb (hml.trans hl.1.symm) hown hk hK k_Clk_86 (ct_Zone_lastChangeUpTo l D tys (aZ zi) b0 e0 off sv b1 b2 b3 b4 e1 e2 e3 e4 t (by omega) (by omega) (by omega) (by omega) gb ge (by omega) (by omega)) (w_subP (is := [2, 3, 4]) hP rfl) (w_subD (is := [2, 3, 4]) hD rfl rfl) rfl rfl rfl rfl ⟨rfl, rfl⟩ ⟨by decide, by decide, by decide, by decide⟩ (Nat.le_of_ble_eq_true rfl) d_Clk_change_19 ?_
    refine lv_goto (tgt := 31) hx hb d_Clk_change_22 (by decide) ?_
    refine lv_lstore (lv' := [(6, .long (lL (cBack off sv (b1, b2, b3, b4) (e1, e2, e3, e4) t))), (5, .ref (aZ zi)), (0, .ref x), (1, .int (iI ((zi : Int)))), (2, .long (lL t)), (4, .int (iI (bI bk)))]) hx hb d_Clk_change_31 hl (by decide) rfl (fun ls hl => ?_)
    refine lv_lload hx hb d_Clk_change_33 (lv_at hl 0 rfl) ?_
    refine lv_lconst (v := lL 0) hx hb d_Clk_change_35 (by decide) ?_
    refine ri_lcmp_lt (tgt := 49) hx hb d_Clk_change_36 d_Clk_change_37 (by decide) (fun h36 => ?_) (fun h36 => ?_)
    · refine lv_ldc2 (v := lL (-1)) hx hb hown (hk _ kc_Clk_94 _) d_Clk_change_49 ?_
      refine lv_goto (tgt := 57) hx hb d_Clk_change_52 (by decide) ?_
      exact p_lret hx hb hr hlk d_Clk_change_57 (by unfold aChg cTell; first | (rw [if_pos h13, if_pos (by omega)]; done) | (rw [if_pos h13, if_neg (by omega)]; done) | (rw [if_neg h13, if_pos (by omega)]; done) | (rw [if_neg h13, if_neg (by omega)]; done))
    · refine lv_lload hx hb d_Clk_change_40 (lv_at hl 0 rfl) ?_
      refine lv_ldc2 (v := lL 1000000000000000) hx hb hown (hk _ kc_Clk_92 _) d_Clk_change_42 ?_
      refine ri_lcmp_ne (tgt := 55) hx hb d_Clk_change_45 d_Clk_change_46 (by decide) (fun h45 => ?_) (fun h45 => ?_)
      · refine lv_lload hx hb d_Clk_change_55 (lv_at hl 0 rfl) ?_
        exact p_lret hx hb hr hlk d_Clk_change_57 (by unfold aChg cTell; first | (rw [if_pos h13, if_pos (by omega)]; done) | (rw [if_pos h13, if_neg (by omega)]; done) | (rw [if_neg h13, if_pos (by omega)]; done) | (rw [if_neg h13, if_neg (by omega)]; done))
      · refine lv_ldc2 (v := lL (-1)) hx hb hown (hk _ kc_Clk_94 _) d_Clk_change_49 ?_
        refine lv_goto (tgt := 57) hx hb d_Clk_change_52 (by decide) ?_
        exact p_lret hx hb hr hlk d_Clk_change_57 (by unfold aChg cTell; first | (rw [if_pos h13, if_pos (by omega)]; done) | (rw [if_pos h13, if_neg (by omega)]; done) | (rw [if_neg h13, if_pos (by omega)]; done) | (rw [if_neg h13, if_neg (by omega)]; done))
abbrev rm_Clk_field : Room := { frames := 6, cells := 0, slots := 0, locals := 141 }
set_option maxHeartbeats 4000000 in
set_option maxRecDepth 100000 in
theorem ct_Clk_field (l : Launch) (D : va_G) (tys : List (ClassId × FieldType)) (x : Nat) (tp : Nat) (dr : Nat) (za : Nat) (bp : Int) (cZ : ClassId) (aZ : Nat → Nat) (zi : Nat) (b0 : Nat) (e0 : Nat) (off : Int) (sv : Int) (b1 : Int) (b2 : Int) (b3 : Int) (b4 : Int) (e1 : Int) (e2 : Int) (e3 : Int) (e4 : Int) (t : Int) (w : Int) (htz : tys[4]? = some (cZ, .object "ZoneClock$Zone")) (gz : zi < 8) (go1 : -840 ≤ off) (go2 : off ≤ 840) (gs1 : 0 ≤ sv) (gs2 : sv ≤ 120) (gb : 0 < sv → rOk b1 b2 b3 b4) (ge : 0 < sv → rOk e1 e2 e3 e4) (gt1 : 0 ≤ t) (gt2 : t ≤ 10413791999999) (gw1 : 0 ≤ w) (gw2 : w ≤ 8) : pMet l y_Clk_field c_Clk_field 7 (some .int) rm_Clk_field D tys [.ref x, .int (iI ((zi : Int))), .long (lL t), .int (iI w)] [(x, .inr (3, [.ref tp, .ref dr, .ref za, .int (iI bp)])), (za, .inl (cZ, 8, .inr (.inr (.inr (.inr (fun k => some (aZ k))))))), (aZ zi, .inr (2, [.int (iI off), .int (iI sv), .ref b0, .ref e0])), (b0, .inr (0, [.int (iI b1), .int (iI b2), .int (iI b3), .int (iI b4)])), (e0, .inr (0, [.int (iI e1), .int (iI e2), .int (iI e3), .int (iI e4)]))] (.int (iI (aFld off sv (b1, b2, b3, b4) (e1, e2, e3, e4) t w))) := by
  refine pMet_of (by decide) (Nat.le_of_ble_eq_true rfl) ?_
  intro p e s m below meth c hx hb hr hown hlk hml hk hK hP hD ls hl
  have hl : lv_has ls 7 [(0, .ref x), (1, .int (iI ((zi : Int)))), (2, .long (lL t)), (4, .int (iI w))] := hl
  have gm := cMin_bd (b := (b1, b2, b3, b4)) (e := (e1, e2, e3, e4)) (t := t) go1 go2 gs1 gs2
  have gS := bI_b (cSum off sv (b1, b2, b3, b4) (e1, e2, e3, e4) t)
  refine lv_aload_n hx hb d_Clk_field_0 rfl (lv_at hl 0 rfl) ?_
  refine lv_iload_n hx hb d_Clk_field_1 rfl (lv_at hl 1 rfl) ?_
  refine p_callV (rest := []) (q0 := 0) hx hb (hml.trans hl.1.symm) hown hk hK k_Clk_44 (ct_Clk_zoneAt l D tys x tp dr za bp cZ aZ zi htz (by omega)) (w_subP (is := [0, 1]) hP rfl) (w_subD (is := [0, 1]) hD rfl rfl) rfl rfl rfl rfl ⟨rfl, rfl⟩ ⟨by decide, by decide, by decide, by decide⟩ (Nat.le_of_ble_eq_true rfl) d_Clk_field_2 ?_
  refine lv_astore (lv' := [(5, .ref (aZ zi)), (0, .ref x), (1, .int (iI ((zi : Int)))), (2, .long (lL t)), (4, .int (iI w))]) hx hb d_Clk_field_5 hl (by decide) rfl (fun ls hl => ?_)
  refine lv_lload_n hx hb d_Clk_field_7 rfl (lv_at hl 3 rfl) ?_
  refine v_callS (rest := []) hx hb (hml.trans hl.1.symm) hown hk hK k_Clk_59 (ct_Clk_checkTime l D tys t (by omega) (by omega)) nil_P nil_D rfl rfl ⟨rfl, rfl⟩ ⟨by decide, by decide, by decide, by decide⟩ (Nat.le_of_ble_eq_true rfl) d_Clk_field_8 ?_
  refine lv_iload hx hb d_Clk_field_11 (lv_at hl 4 rfl) ?_
  refine ri_if_lt (tgt := 23) hx hb d_Clk_field_13 (by decide) (fun h13 => ?_) (fun h13 => ?_)
  · exfalso; omega
  · refine lv_iload hx hb d_Clk_field_16 (lv_at hl 4 rfl) ?_
    refine lv_bipush (v := iI 8) hx hb d_Clk_field_18 (by decide) ?_
    refine ri_icmp_le (tgt := 31) hx hb d_Clk_field_20 (by decide) (fun h20 => ?_) (fun h20 => ?_)
    · refine lv_iload hx hb d_Clk_field_31 (lv_at hl 4 rfl) ?_
      refine lv_bipush (v := iI 8) hx hb d_Clk_field_33 (by decide) ?_
      refine ri_icmp_ne (tgt := 53) hx hb d_Clk_field_35 (by decide) (fun h35 => ?_) (fun h35 => ?_)
      · refine lv_aload hx hb d_Clk_field_53 (lv_at hl 0 rfl) ?_
        refine lv_lload_n hx hb d_Clk_field_55 rfl (lv_at hl 3 rfl) ?_
        refine p_callV (rest := []) (q0 := 0) hx hb (hml.trans hl.1.symm) hown hk hK k_Clk_63 (ct_Zone_minutesAt l D tys (aZ zi) b0 e0 off sv b1 b2 b3 b4 e1 e2 e3 e4 t (by omega) (by omega) (by omega) (by omega) gb ge (by omega) (by omega)) (w_subP (is := [2, 3, 4]) hP rfl) (w_subD (is := [2, 3, 4]) hD rfl rfl) rfl rfl rfl rfl ⟨rfl, rfl⟩ ⟨by decide, by decide, by decide, by decide⟩ (Nat.le_of_ble_eq_true rfl) d_Clk_field_56 ?_
        refine lv_istore (lv' := [(6, .int (iI (cMin off sv (b1, b2, b3, b4) (e1, e2, e3, e4) t))), (5, .ref (aZ zi)), (0, .ref x), (1, .int (iI ((zi : Int)))), (2, .long (lL t)), (4, .int (iI w))]) hx hb d_Clk_field_59 hl (by decide) rfl (fun ls hl => ?_)
        refine lv_iload hx hb d_Clk_field_61 (lv_at hl 5 rfl) ?_
        refine lv_bipush (v := iI 7) hx hb d_Clk_field_63 (by decide) ?_
        refine ri_icmp_ne (tgt := 71) hx hb d_Clk_field_65 (by decide) (fun h65 => ?_) (fun h65 => ?_)
        · refine lv_lload_n hx hb d_Clk_field_71 rfl (lv_at hl 4 rfl) ?_
          refine lv_iload hx hb d_Clk_field_72 (lv_at hl 0 rfl) ?_
          refine ri_i2l hx hb d_Clk_field_74 ?_
          refine lv_ldc2 (v := lL 60000) hx hb hown (hk _ kc_Clk_67 _) d_Clk_field_75 ?_
          refine ri_lmul hx hb d_Clk_field_78 ?_
          refine ri_ladd hx hb d_Clk_field_79 ?_
          refine lv_iload hx hb d_Clk_field_80 (lv_at hl 5 rfl) ?_
          refine p_callS (rest := []) hx hb (hml.trans hl.1.symm) hown hk hK k_Clk_99 (ct_Cal_partOf l D tys (t + ((cMin off sv (b1, b2, b3, b4) (e1, e2, e3, e4) t) * 60000)) w (by omega) (by omega) (by omega) (by omega)) nil_P nil_D rfl rfl ⟨rfl, rfl⟩ ⟨by decide, by decide, by decide, by decide⟩ (Nat.le_of_ble_eq_true rfl) d_Clk_field_82 ?_
          exact p_iret hx hb hr hlk d_Clk_field_85 (by unfold aFld; rw [if_neg h35, if_neg h65])
        · refine lv_iload hx hb d_Clk_field_68 (lv_at hl 0 rfl) ?_
          exact p_iret hx hb hr hlk d_Clk_field_70 (by unfold aFld; rw [if_neg h35, if_pos h65])
      · refine lv_aload hx hb d_Clk_field_38 (lv_at hl 0 rfl) ?_
        refine lv_lload_n hx hb d_Clk_field_40 rfl (lv_at hl 3 rfl) ?_
        refine p_callV (rest := []) (q0 := 0) hx hb (hml.trans hl.1.symm) hown hk hK k_Clk_96 (ct_Zone_isSummer l D tys (aZ zi) b0 e0 off sv b1 b2 b3 b4 e1 e2 e3 e4 t (by omega) (by omega) (by omega) (by omega) gb ge (by omega) (by omega)) (w_subP (is := [2, 3, 4]) hP rfl) (w_subD (is := [2, 3, 4]) hD rfl rfl) rfl rfl rfl rfl ⟨rfl, rfl⟩ ⟨by decide, by decide, by decide, by decide⟩ (Nat.le_of_ble_eq_true rfl) d_Clk_field_41 ?_
        refine ri_if_eq (tgt := 51) hx hb d_Clk_field_44 (by decide) (fun h44 => ?_) (fun h44 => ?_)
        · refine lv_iconst (v := iI 0) hx hb d_Clk_field_51 rfl ?_
          exact p_iret hx hb hr hlk d_Clk_field_52 (by unfold aFld; rw [if_pos h35]; omega)
        · refine lv_iconst (v := iI 1) hx hb d_Clk_field_47 rfl ?_
          refine lv_goto (tgt := 52) hx hb d_Clk_field_48 (by decide) ?_
          exact p_iret hx hb hr hlk d_Clk_field_52 (by unfold aFld; rw [if_pos h35]; omega)
    · exfalso; omega
