/-! Contracts: Zone's readers. By program (wip/whole/m_zone.py). -/
abbrev rm_Zone_isSummer : Room := { frames := 4, cells := 0, slots := 0, locals := 97 }
set_option maxHeartbeats 4000000 in
set_option maxRecDepth 100000 in
theorem ct_Zone_isSummer (l : Launch) (D : va_G) (tys : List (ClassId × FieldType)) (z : Nat) (b0 : Nat) (e0 : Nat) (off : Int) (sv : Int) (b1 : Int) (b2 : Int) (b3 : Int) (b4 : Int) (e1 : Int) (e2 : Int) (e3 : Int) (e4 : Int) (t : Int) (go1 : -840 ≤ off) (go2 : off ≤ 840) (gs1 : 0 ≤ sv) (gs2 : sv ≤ 120) (gb : 0 < sv → rOk b1 b2 b3 b4) (ge : 0 < sv → rOk e1 e2 e3 e4) (gt1 : -60000000 ≤ t) (gt2 : t ≤ 10413900000000) : pMet l y_Zone_isSummer c_Zone_isSummer 3 (some .boolean) rm_Zone_isSummer D tys [.ref z, .long (lL t)] [(z, .inr (2, [.int (iI off), .int (iI sv), .ref b0, .ref e0])), (b0, .inr (0, [.int (iI b1), .int (iI b2), .int (iI b3), .int (iI b4)])), (e0, .inr (0, [.int (iI e1), .int (iI e2), .int (iI e3), .int (iI e4)]))] (.int (iI (bI (cSum off sv (b1, b2, b3, b4) (e1, e2, e3, e4) (t))))) := by
  refine pMet_of (by decide) (Nat.le_of_ble_eq_true rfl) ?_
  intro p e s m below meth c hx hb hr hown hlk hml hk hK hP hD ls hl
  have hl : lv_has ls 3 [(0, .ref z), (1, .long (lL t))] := hl
  refine lv_aload_n hx hb d_Zone_isSummer_0 rfl (lv_at hl 0 rfl) ?_
  refine g_get hx hb hk hown hK hP 0 rfl f_Zone_25 rfl d_Zone_isSummer_1 ?_
  refine ri_if_le (tgt := 44) hx hb d_Zone_isSummer_4 (by decide) (fun h4 => ?_) (fun h4 => ?_)
  · refine lv_iconst (v := iI 0) hx hb d_Zone_isSummer_44 rfl ?_
    exact p_zret hx hb hr hlk d_Zone_isSummer_45 (by first | (show 0 = bI (decide (0 < sv) && decide (rLast e1 e2 e3 e4 t (off + sv) < rLast b1 b2 b3 b4 t off)); rw [decide_eq_false (show ¬ 0 < sv by omega)]; rfl) | (show 1 = bI (decide (0 < sv) && decide (rLast e1 e2 e3 e4 t (off + sv) < rLast b1 b2 b3 b4 t off)); rw [decide_eq_true (show 0 < sv by omega), decide_eq_true (show rLast e1 e2 e3 e4 t (off + sv) < rLast b1 b2 b3 b4 t off by omega)]; rfl) | (show 0 = bI (decide (0 < sv) && decide (rLast e1 e2 e3 e4 t (off + sv) < rLast b1 b2 b3 b4 t off)); rw [decide_eq_true (show 0 < sv by omega), decide_eq_false (show ¬ rLast e1 e2 e3 e4 t (off + sv) < rLast b1 b2 b3 b4 t off by omega)]; rfl)) (by omega)
  · have gB := gb (by omega)
    have gE := ge (by omega)
    have q1 := rLast_bd gB (t := t) (sh := off) (by omega) (by omega) (by omega) (by omega)
    have q2 := rLast_bd gE (t := t) (sh := off + sv) (by omega) (by omega) (by omega) (by omega)
    refine lv_aload_n hx hb d_Zone_isSummer_7 rfl (lv_at hl 0 rfl) ?_
    refine g_get hx hb hk hown hK hP 0 rfl f_Zone_12 rfl d_Zone_isSummer_8 ?_
    refine lv_lload_n hx hb d_Zone_isSummer_11 rfl (lv_at hl 1 rfl) ?_
    refine lv_aload_n hx hb d_Zone_isSummer_12 rfl (lv_at hl 0 rfl) ?_
    refine g_get hx hb hk hown hK hP 0 rfl f_Zone_21 rfl d_Zone_isSummer_13 ?_
    refine p_callV (rest := []) (q0 := 0) hx hb (hml.trans hl.1.symm) hown hk hK k_Zone_32 (ct_Rule_lastUpTo l D tys b0 b1 b2 b3 b4 t off gB (by omega) (by omega) (by omega) (by omega) (by omega) (by omega)) (w_subP (is := [1]) hP rfl) (w_subD (is := [1]) hD rfl rfl) rfl rfl rfl rfl ⟨rfl, rfl⟩ ⟨by decide, by decide, by decide, by decide⟩ (Nat.le_of_ble_eq_true rfl) d_Zone_isSummer_16 ?_
    refine lv_aload_n hx hb d_Zone_isSummer_19 rfl (lv_at hl 0 rfl) ?_
    refine g_get hx hb hk hown hK hP 0 rfl f_Zone_18 rfl d_Zone_isSummer_20 ?_
    refine lv_lload_n hx hb d_Zone_isSummer_23 rfl (lv_at hl 1 rfl) ?_
    refine lv_aload_n hx hb d_Zone_isSummer_24 rfl (lv_at hl 0 rfl) ?_
    refine g_get hx hb hk hown hK hP 0 rfl f_Zone_21 rfl d_Zone_isSummer_25 ?_
    refine lv_aload_n hx hb d_Zone_isSummer_28 rfl (lv_at hl 0 rfl) ?_
    refine g_get hx hb hk hown hK hP 0 rfl f_Zone_25 rfl d_Zone_isSummer_29 ?_
    refine ri_iadd hx hb d_Zone_isSummer_32 ?_
    refine p_callV (rest := [.long (lL (rLast b1 b2 b3 b4 t off))]) (q0 := 0) hx hb (hml.trans hl.1.symm) hown hk hK k_Zone_32 (ct_Rule_lastUpTo l D tys e0 e1 e2 e3 e4 t (off + sv) gE (by omega) (by omega) (by omega) (by omega) (by omega) (by omega)) (w_subP (is := [2]) hP rfl) (w_subD (is := [2]) hD rfl rfl) rfl rfl rfl rfl ⟨rfl, rfl⟩ ⟨by decide, by decide, by decide, by decide⟩ (Nat.le_of_ble_eq_true rfl) d_Zone_isSummer_33 ?_
    refine ri_lcmp_le (tgt := 44) hx hb d_Zone_isSummer_36 d_Zone_isSummer_37 (by decide) (fun h36 => ?_) (fun h36 => ?_)
    · refine lv_iconst (v := iI 0) hx hb d_Zone_isSummer_44 rfl ?_
      exact p_zret hx hb hr hlk d_Zone_isSummer_45 (by first | (show 0 = bI (decide (0 < sv) && decide (rLast e1 e2 e3 e4 t (off + sv) < rLast b1 b2 b3 b4 t off)); rw [decide_eq_false (show ¬ 0 < sv by omega)]; rfl) | (show 1 = bI (decide (0 < sv) && decide (rLast e1 e2 e3 e4 t (off + sv) < rLast b1 b2 b3 b4 t off)); rw [decide_eq_true (show 0 < sv by omega), decide_eq_true (show rLast e1 e2 e3 e4 t (off + sv) < rLast b1 b2 b3 b4 t off by omega)]; rfl) | (show 0 = bI (decide (0 < sv) && decide (rLast e1 e2 e3 e4 t (off + sv) < rLast b1 b2 b3 b4 t off)); rw [decide_eq_true (show 0 < sv by omega), decide_eq_false (show ¬ rLast e1 e2 e3 e4 t (off + sv) < rLast b1 b2 b3 b4 t off by omega)]; rfl)) (by omega)
    · refine lv_iconst (v := iI 1) hx hb d_Zone_isSummer_40 rfl ?_
      refine lv_goto (tgt := 45) hx hb d_Zone_isSummer_41 (by decide) ?_
      exact p_zret hx hb hr hlk d_Zone_isSummer_45 (by first | (show 0 = bI (decide (0 < sv) && decide (rLast e1 e2 e3 e4 t (off + sv) < rLast b1 b2 b3 b4 t off)); rw [decide_eq_false (show ¬ 0 < sv by omega)]; rfl) | (show 1 = bI (decide (0 < sv) && decide (rLast e1 e2 e3 e4 t (off + sv) < rLast b1 b2 b3 b4 t off)); rw [decide_eq_true (show 0 < sv by omega), decide_eq_true (show rLast e1 e2 e3 e4 t (off + sv) < rLast b1 b2 b3 b4 t off by omega)]; rfl) | (show 0 = bI (decide (0 < sv) && decide (rLast e1 e2 e3 e4 t (off + sv) < rLast b1 b2 b3 b4 t off)); rw [decide_eq_true (show 0 < sv by omega), decide_eq_false (show ¬ rLast e1 e2 e3 e4 t (off + sv) < rLast b1 b2 b3 b4 t off by omega)]; rfl)) (by omega)
abbrev rm_Zone_fromPlainReading : Room := { frames := 0, cells := 0, slots := 0, locals := 0 }
set_option maxHeartbeats 4000000 in
set_option maxRecDepth 100000 in
theorem ct_Zone_fromPlainReading (l : Launch) (D : va_G) (tys : List (ClassId × FieldType)) (z : Nat) (b0 : Nat) (e0 : Nat) (off : Int) (sv : Int) (b1 : Int) (b2 : Int) (b3 : Int) (b4 : Int) (e1 : Int) (e2 : Int) (e3 : Int) (e4 : Int) (t : Int) (go1 : -840 ≤ off) (go2 : off ≤ 840) (gs1 : 0 ≤ sv) (gs2 : sv ≤ 120) (gt1 : -60000000 ≤ t) (gt2 : t ≤ 10413900000000) : pMet l y_Zone_fromPlainReading c_Zone_fromPlainReading 3 (some .long) rm_Zone_fromPlainReading D tys [.ref z, .long (lL t)] [(z, .inr (2, [.int (iI off), .int (iI sv), .ref b0, .ref e0])), (b0, .inr (0, [.int (iI b1), .int (iI b2), .int (iI b3), .int (iI b4)])), (e0, .inr (0, [.int (iI e1), .int (iI e2), .int (iI e3), .int (iI e4)]))] (.long (lL (t - off * 60000))) := by
  refine pMet_of (by decide) (Nat.le_of_ble_eq_true rfl) ?_
  intro p e s m below meth c hx hb hr hown hlk hml hk hK hP hD ls hl
  have hl : lv_has ls 3 [(0, .ref z), (1, .long (lL t))] := hl
  refine lv_lload_n hx hb d_Zone_fromPlainReading_0 rfl (lv_at hl 1 rfl) ?_
  refine lv_aload_n hx hb d_Zone_fromPlainReading_1 rfl (lv_at hl 0 rfl) ?_
  refine g_get hx hb hk hown hK hP 0 rfl f_Zone_21 rfl d_Zone_fromPlainReading_2 ?_
  refine ri_i2l hx hb d_Zone_fromPlainReading_5 ?_
  refine lv_ldc2 (v := lL 60000) hx hb hown (hk _ kc_Zone_40 _) d_Zone_fromPlainReading_6 ?_
  refine ri_lmul hx hb d_Zone_fromPlainReading_9 ?_
  refine ri_lsub hx hb d_Zone_fromPlainReading_10 ?_
  exact p_lret hx hb hr hlk d_Zone_fromPlainReading_11 (by rfl)
abbrev rm_Zone_fromSummerReading : Room := { frames := 0, cells := 0, slots := 0, locals := 0 }
set_option maxHeartbeats 4000000 in
set_option maxRecDepth 100000 in
theorem ct_Zone_fromSummerReading (l : Launch) (D : va_G) (tys : List (ClassId × FieldType)) (z : Nat) (b0 : Nat) (e0 : Nat) (off : Int) (sv : Int) (b1 : Int) (b2 : Int) (b3 : Int) (b4 : Int) (e1 : Int) (e2 : Int) (e3 : Int) (e4 : Int) (t : Int) (go1 : -840 ≤ off) (go2 : off ≤ 840) (gs1 : 0 ≤ sv) (gs2 : sv ≤ 120) (gt1 : -60000000 ≤ t) (gt2 : t ≤ 10413900000000) : pMet l y_Zone_fromSummerReading c_Zone_fromSummerReading 3 (some .long) rm_Zone_fromSummerReading D tys [.ref z, .long (lL t)] [(z, .inr (2, [.int (iI off), .int (iI sv), .ref b0, .ref e0])), (b0, .inr (0, [.int (iI b1), .int (iI b2), .int (iI b3), .int (iI b4)])), (e0, .inr (0, [.int (iI e1), .int (iI e2), .int (iI e3), .int (iI e4)]))] (.long (lL (t - (off + sv) * 60000))) := by
  refine pMet_of (by decide) (Nat.le_of_ble_eq_true rfl) ?_
  intro p e s m below meth c hx hb hr hown hlk hml hk hK hP hD ls hl
  have hl : lv_has ls 3 [(0, .ref z), (1, .long (lL t))] := hl
  refine lv_lload_n hx hb d_Zone_fromSummerReading_0 rfl (lv_at hl 1 rfl) ?_
  refine lv_aload_n hx hb d_Zone_fromSummerReading_1 rfl (lv_at hl 0 rfl) ?_
  refine g_get hx hb hk hown hK hP 0 rfl f_Zone_21 rfl d_Zone_fromSummerReading_2 ?_
  refine lv_aload_n hx hb d_Zone_fromSummerReading_5 rfl (lv_at hl 0 rfl) ?_
  refine g_get hx hb hk hown hK hP 0 rfl f_Zone_25 rfl d_Zone_fromSummerReading_6 ?_
  refine ri_iadd hx hb d_Zone_fromSummerReading_9 ?_
  refine ri_i2l hx hb d_Zone_fromSummerReading_10 ?_
  refine lv_ldc2 (v := lL 60000) hx hb hown (hk _ kc_Zone_40 _) d_Zone_fromSummerReading_11 ?_
  refine ri_lmul hx hb d_Zone_fromSummerReading_14 ?_
  refine ri_lsub hx hb d_Zone_fromSummerReading_15 ?_
  exact p_lret hx hb hr hlk d_Zone_fromSummerReading_16 (by rfl)
abbrev rm_Zone_minutesAt : Room := { frames := 5, cells := 0, slots := 0, locals := 119 }
set_option maxHeartbeats 4000000 in
set_option maxRecDepth 100000 in
theorem ct_Zone_minutesAt (l : Launch) (D : va_G) (tys : List (ClassId × FieldType)) (z : Nat) (b0 : Nat) (e0 : Nat) (off : Int) (sv : Int) (b1 : Int) (b2 : Int) (b3 : Int) (b4 : Int) (e1 : Int) (e2 : Int) (e3 : Int) (e4 : Int) (t : Int) (go1 : -840 ≤ off) (go2 : off ≤ 840) (gs1 : 0 ≤ sv) (gs2 : sv ≤ 120) (gb : 0 < sv → rOk b1 b2 b3 b4) (ge : 0 < sv → rOk e1 e2 e3 e4) (gt1 : -60000000 ≤ t) (gt2 : t ≤ 10413900000000) : pMet l y_Zone_minutesAt c_Zone_minutesAt 3 (some .int) rm_Zone_minutesAt D tys [.ref z, .long (lL t)] [(z, .inr (2, [.int (iI off), .int (iI sv), .ref b0, .ref e0])), (b0, .inr (0, [.int (iI b1), .int (iI b2), .int (iI b3), .int (iI b4)])), (e0, .inr (0, [.int (iI e1), .int (iI e2), .int (iI e3), .int (iI e4)]))] (.int (iI (cMin off sv (b1, b2, b3, b4) (e1, e2, e3, e4) t))) := by
  refine pMet_of (by decide) (Nat.le_of_ble_eq_true rfl) ?_
  intro p e s m below meth c hx hb hr hown hlk hml hk hK hP hD ls hl
  have hl : lv_has ls 3 [(0, .ref z), (1, .long (lL t))] := hl
  refine lv_aload_n hx hb d_Zone_minutesAt_0 rfl (lv_at hl 0 rfl) ?_
  refine lv_lload_n hx hb d_Zone_minutesAt_1 rfl (lv_at hl 1 rfl) ?_
  refine p_callV (rest := []) (q0 := 0) hx hb (hml.trans hl.1.symm) hown hk hK k_Zone_36 (ct_Zone_isSummer l D tys z b0 e0 off sv b1 b2 b3 b4 e1 e2 e3 e4 t (by omega) (by omega) (by omega) (by omega) gb ge (by omega) (by omega)) (w_subP (is := [0, 1, 2]) hP rfl) (w_subD (is := [0, 1, 2]) hD rfl rfl) rfl rfl rfl rfl ⟨rfl, rfl⟩ ⟨by decide, by decide, by decide, by decide⟩ (Nat.le_of_ble_eq_true rfl) d_Zone_minutesAt_2 ?_
  have gB := bI_b (cSum off sv (b1, b2, b3, b4) (e1, e2, e3, e4) (t))
  refine ri_if_eq (tgt := 20) hx hb d_Zone_minutesAt_5 (by decide) (fun h5 => ?_) (fun h5 => ?_)
  · refine lv_aload_n hx hb d_Zone_minutesAt_20 rfl (lv_at hl 0 rfl) ?_
    refine g_get hx hb hk hown hK hP 0 rfl f_Zone_21 rfl d_Zone_minutesAt_21 ?_
    exact p_iret hx hb hr hlk d_Zone_minutesAt_24 (by unfold cMin; first | (rw [bI_e0 h5]; rfl) | (rw [bI_e1 h5]; rfl))
  · refine lv_aload_n hx hb d_Zone_minutesAt_8 rfl (lv_at hl 0 rfl) ?_
    refine g_get hx hb hk hown hK hP 0 rfl f_Zone_21 rfl d_Zone_minutesAt_9 ?_
    refine lv_aload_n hx hb d_Zone_minutesAt_12 rfl (lv_at hl 0 rfl) ?_
    refine g_get hx hb hk hown hK hP 0 rfl f_Zone_25 rfl d_Zone_minutesAt_13 ?_
    refine ri_iadd hx hb d_Zone_minutesAt_16 ?_
    refine lv_goto (tgt := 24) hx hb d_Zone_minutesAt_17 (by decide) ?_
    exact p_iret hx hb hr hlk d_Zone_minutesAt_24 (by unfold cMin; first | (rw [bI_e0 h5]; rfl) | (rw [bI_e1 h5]; rfl))
abbrev rm_Zone_isReadInSummer : Room := { frames := 5, cells := 0, slots := 0, locals := 119 }
set_option maxHeartbeats 4000000 in
set_option maxRecDepth 100000 in
theorem ct_Zone_isReadInSummer (l : Launch) (D : va_G) (tys : List (ClassId × FieldType)) (z : Nat) (b0 : Nat) (e0 : Nat) (off : Int) (sv : Int) (b1 : Int) (b2 : Int) (b3 : Int) (b4 : Int) (e1 : Int) (e2 : Int) (e3 : Int) (e4 : Int) (t : Int) (go1 : -840 ≤ off) (go2 : off ≤ 840) (gs1 : 0 ≤ sv) (gs2 : sv ≤ 120) (gb : 0 < sv → rOk b1 b2 b3 b4) (ge : 0 < sv → rOk e1 e2 e3 e4) (gt1 : 0 ≤ t) (gt2 : t ≤ 10413791999999) : pMet l y_Zone_isReadInSummer c_Zone_isReadInSummer 3 (some .boolean) rm_Zone_isReadInSummer D tys [.ref z, .long (lL t)] [(z, .inr (2, [.int (iI off), .int (iI sv), .ref b0, .ref e0])), (b0, .inr (0, [.int (iI b1), .int (iI b2), .int (iI b3), .int (iI b4)])), (e0, .inr (0, [.int (iI e1), .int (iI e2), .int (iI e3), .int (iI e4)]))] (.int (iI (bI (cSum off sv (b1, b2, b3, b4) (e1, e2, e3, e4) (t - (off + sv) * 60000))))) := by
  refine pMet_of (by decide) (Nat.le_of_ble_eq_true rfl) ?_
  intro p e s m below meth c hx hb hr hown hlk hml hk hK hP hD ls hl
  have hl : lv_has ls 3 [(0, .ref z), (1, .long (lL t))] := hl
  refine lv_aload_n hx hb d_Zone_isReadInSummer_0 rfl (lv_at hl 0 rfl) ?_
  refine lv_aload_n hx hb d_Zone_isReadInSummer_1 rfl (lv_at hl 0 rfl) ?_
  refine lv_lload_n hx hb d_Zone_isReadInSummer_2 rfl (lv_at hl 1 rfl) ?_
  refine p_callV (rest := [.ref z]) (q0 := 0) hx hb (hml.trans hl.1.symm) hown hk hK k_Zone_46 (ct_Zone_fromSummerReading l D tys z b0 e0 off sv b1 b2 b3 b4 e1 e2 e3 e4 t (by omega) (by omega) (by omega) (by omega) (by omega) (by omega)) (w_subP (is := [0, 1, 2]) hP rfl) (w_subD (is := [0, 1, 2]) hD rfl rfl) rfl rfl rfl rfl ⟨rfl, rfl⟩ ⟨by decide, by decide, by decide, by decide⟩ (Nat.le_of_ble_eq_true rfl) d_Zone_isReadInSummer_3 ?_
  refine p_callV (rest := []) (q0 := 0) hx hb (hml.trans hl.1.symm) hown hk hK k_Zone_36 (ct_Zone_isSummer l D tys z b0 e0 off sv b1 b2 b3 b4 e1 e2 e3 e4 (t - (off + sv) * 60000) (by omega) (by omega) (by omega) (by omega) gb ge (by omega) (by omega)) (w_subP (is := [0, 1, 2]) hP rfl) (w_subD (is := [0, 1, 2]) hD rfl rfl) rfl rfl rfl rfl ⟨rfl, rfl⟩ ⟨by decide, by decide, by decide, by decide⟩ (Nat.le_of_ble_eq_true rfl) d_Zone_isReadInSummer_6 ?_
  exact p_zret hx hb hr hlk d_Zone_isReadInSummer_9 (by rfl) (bI_01 _)
abbrev rm_Zone_isReadOutsideSummer : Room := { frames := 5, cells := 0, slots := 0, locals := 119 }
set_option maxHeartbeats 4000000 in
set_option maxRecDepth 100000 in
theorem ct_Zone_isReadOutsideSummer (l : Launch) (D : va_G) (tys : List (ClassId × FieldType)) (z : Nat) (b0 : Nat) (e0 : Nat) (off : Int) (sv : Int) (b1 : Int) (b2 : Int) (b3 : Int) (b4 : Int) (e1 : Int) (e2 : Int) (e3 : Int) (e4 : Int) (t : Int) (go1 : -840 ≤ off) (go2 : off ≤ 840) (gs1 : 0 ≤ sv) (gs2 : sv ≤ 120) (gb : 0 < sv → rOk b1 b2 b3 b4) (ge : 0 < sv → rOk e1 e2 e3 e4) (gt1 : 0 ≤ t) (gt2 : t ≤ 10413791999999) : pMet l y_Zone_isReadOutsideSummer c_Zone_isReadOutsideSummer 3 (some .boolean) rm_Zone_isReadOutsideSummer D tys [.ref z, .long (lL t)] [(z, .inr (2, [.int (iI off), .int (iI sv), .ref b0, .ref e0])), (b0, .inr (0, [.int (iI b1), .int (iI b2), .int (iI b3), .int (iI b4)])), (e0, .inr (0, [.int (iI e1), .int (iI e2), .int (iI e3), .int (iI e4)]))] (.int (iI (bI (!cSum off sv (b1, b2, b3, b4) (e1, e2, e3, e4) (t - off * 60000))))) := by
  refine pMet_of (by decide) (Nat.le_of_ble_eq_true rfl) ?_
  intro p e s m below meth c hx hb hr hown hlk hml hk hK hP hD ls hl
  have hl : lv_has ls 3 [(0, .ref z), (1, .long (lL t))] := hl
  refine lv_aload_n hx hb d_Zone_isReadOutsideSummer_0 rfl (lv_at hl 0 rfl) ?_
  refine lv_aload_n hx hb d_Zone_isReadOutsideSummer_1 rfl (lv_at hl 0 rfl) ?_
  refine lv_lload_n hx hb d_Zone_isReadOutsideSummer_2 rfl (lv_at hl 1 rfl) ?_
  refine p_callV (rest := [.ref z]) (q0 := 0) hx hb (hml.trans hl.1.symm) hown hk hK k_Zone_42 (ct_Zone_fromPlainReading l D tys z b0 e0 off sv b1 b2 b3 b4 e1 e2 e3 e4 t (by omega) (by omega) (by omega) (by omega) (by omega) (by omega)) (w_subP (is := [0, 1, 2]) hP rfl) (w_subD (is := [0, 1, 2]) hD rfl rfl) rfl rfl rfl rfl ⟨rfl, rfl⟩ ⟨by decide, by decide, by decide, by decide⟩ (Nat.le_of_ble_eq_true rfl) d_Zone_isReadOutsideSummer_3 ?_
  refine p_callV (rest := []) (q0 := 0) hx hb (hml.trans hl.1.symm) hown hk hK k_Zone_36 (ct_Zone_isSummer l D tys z b0 e0 off sv b1 b2 b3 b4 e1 e2 e3 e4 (t - off * 60000) (by omega) (by omega) (by omega) (by omega) gb ge (by omega) (by omega)) (w_subP (is := [0, 1, 2]) hP rfl) (w_subD (is := [0, 1, 2]) hD rfl rfl) rfl rfl rfl rfl ⟨rfl, rfl⟩ ⟨by decide, by decide, by decide, by decide⟩ (Nat.le_of_ble_eq_true rfl) d_Zone_isReadOutsideSummer_6 ?_
  have gB := bI_b (cSum off sv (b1, b2, b3, b4) (e1, e2, e3, e4) (t - off * 60000))
  refine ri_if_ne (tgt := 16) hx hb d_Zone_isReadOutsideSummer_9 (by decide) (fun h9 => ?_) (fun h9 => ?_)
  · refine lv_iconst (v := iI 0) hx hb d_Zone_isReadOutsideSummer_16 rfl ?_
    exact p_zret hx hb hr hlk d_Zone_isReadOutsideSummer_17 (by first | (rw [bI_e0 h9]; rfl) | (rw [bI_e1 h9]; rfl)) (by omega)
  · refine lv_iconst (v := iI 1) hx hb d_Zone_isReadOutsideSummer_12 rfl ?_
    refine lv_goto (tgt := 17) hx hb d_Zone_isReadOutsideSummer_13 (by decide) ?_
    exact p_zret hx hb hr hlk d_Zone_isReadOutsideSummer_17 (by first | (rw [bI_e0 h9]; rfl) | (rw [bI_e1 h9]; rfl)) (by omega)
abbrev rm_Zone_lastChangeUpTo : Room := { frames := 4, cells := 0, slots := 0, locals := 97 }
set_option maxHeartbeats 4000000 in
set_option maxRecDepth 100000 in
theorem ct_Zone_lastChangeUpTo (l : Launch) (D : va_G) (tys : List (ClassId × FieldType)) (z : Nat) (b0 : Nat) (e0 : Nat) (off : Int) (sv : Int) (b1 : Int) (b2 : Int) (b3 : Int) (b4 : Int) (e1 : Int) (e2 : Int) (e3 : Int) (e4 : Int) (t : Int) (go1 : -840 ≤ off) (go2 : off ≤ 840) (gs1 : 0 ≤ sv) (gs2 : sv ≤ 120) (gb : 0 < sv → rOk b1 b2 b3 b4) (ge : 0 < sv → rOk e1 e2 e3 e4) (gt1 : -60000000 ≤ t) (gt2 : t ≤ 10413900000000) : pMet l y_Zone_lastChangeUpTo c_Zone_lastChangeUpTo 3 (some .long) rm_Zone_lastChangeUpTo D tys [.ref z, .long (lL t)] [(z, .inr (2, [.int (iI off), .int (iI sv), .ref b0, .ref e0])), (b0, .inr (0, [.int (iI b1), .int (iI b2), .int (iI b3), .int (iI b4)])), (e0, .inr (0, [.int (iI e1), .int (iI e2), .int (iI e3), .int (iI e4)]))] (.long (lL (cBack off sv (b1, b2, b3, b4) (e1, e2, e3, e4) t))) := by
  refine pMet_of (by decide) (Nat.le_of_ble_eq_true rfl) ?_
  intro p e s m below meth c hx hb hr hown hlk hml hk hK hP hD ls hl
  have hl : lv_has ls 3 [(0, .ref z), (1, .long (lL t))] := hl
  refine lv_aload_n hx hb d_Zone_lastChangeUpTo_0 rfl (lv_at hl 0 rfl) ?_
  refine g_get hx hb hk hown hK hP 0 rfl f_Zone_25 rfl d_Zone_lastChangeUpTo_1 ?_
  refine ri_if_ne (tgt := 11) hx hb d_Zone_lastChangeUpTo_4 (by decide) (fun h4 => ?_) (fun h4 => ?_)
  · have gB := gb (by omega)
    have gE := ge (by omega)
    have q1 := rLast_bd gB (t := t) (sh := off) (by omega) (by omega) (by omega) (by omega)
    have q2 := rLast_bd gE (t := t) (sh := off + sv) (by omega) (by omega) (by omega) (by omega)
    refine lv_aload_n hx hb d_Zone_lastChangeUpTo_11 rfl (lv_at hl 0 rfl) ?_
    refine g_get hx hb hk hown hK hP 0 rfl f_Zone_12 rfl d_Zone_lastChangeUpTo_12 ?_
    refine lv_lload_n hx hb d_Zone_lastChangeUpTo_15 rfl (lv_at hl 1 rfl) ?_
    refine lv_aload_n hx hb d_Zone_lastChangeUpTo_16 rfl (lv_at hl 0 rfl) ?_
    refine g_get hx hb hk hown hK hP 0 rfl f_Zone_21 rfl d_Zone_lastChangeUpTo_17 ?_
    refine p_callV (rest := []) (q0 := 0) hx hb (hml.trans hl.1.symm) hown hk hK k_Zone_32 (ct_Rule_lastUpTo l D tys b0 b1 b2 b3 b4 t off gB (by omega) (by omega) (by omega) (by omega) (by omega) (by omega)) (w_subP (is := [1]) hP rfl) (w_subD (is := [1]) hD rfl rfl) rfl rfl rfl rfl ⟨rfl, rfl⟩ ⟨by decide, by decide, by decide, by decide⟩ (Nat.le_of_ble_eq_true rfl) d_Zone_lastChangeUpTo_20 ?_
    refine lv_aload_n hx hb d_Zone_lastChangeUpTo_23 rfl (lv_at hl 0 rfl) ?_
    refine g_get hx hb hk hown hK hP 0 rfl f_Zone_18 rfl d_Zone_lastChangeUpTo_24 ?_
    refine lv_lload_n hx hb d_Zone_lastChangeUpTo_27 rfl (lv_at hl 1 rfl) ?_
    refine lv_aload_n hx hb d_Zone_lastChangeUpTo_28 rfl (lv_at hl 0 rfl) ?_
    refine g_get hx hb hk hown hK hP 0 rfl f_Zone_21 rfl d_Zone_lastChangeUpTo_29 ?_
    refine lv_aload_n hx hb d_Zone_lastChangeUpTo_32 rfl (lv_at hl 0 rfl) ?_
    refine g_get hx hb hk hown hK hP 0 rfl f_Zone_25 rfl d_Zone_lastChangeUpTo_33 ?_
    refine ri_iadd hx hb d_Zone_lastChangeUpTo_36 ?_
    refine p_callV (rest := [.long (lL (rLast b1 b2 b3 b4 t off))]) (q0 := 0) hx hb (hml.trans hl.1.symm) hown hk hK k_Zone_32 (ct_Rule_lastUpTo l D tys e0 e1 e2 e3 e4 t (off + sv) gE (by omega) (by omega) (by omega) (by omega) (by omega) (by omega)) (w_subP (is := [2]) hP rfl) (w_subD (is := [2]) hD rfl rfl) rfl rfl rfl rfl ⟨rfl, rfl⟩ ⟨by decide, by decide, by decide, by decide⟩ (Nat.le_of_ble_eq_true rfl) d_Zone_lastChangeUpTo_37 ?_
    refine p_callS (rest := []) hx hb (hml.trans hl.1.symm) hown hk hK k_Zone_51 (ct_Math_maxJ l D tys (rLast b1 b2 b3 b4 t off) (rLast e1 e2 e3 e4 t (off + sv)) (by omega) (by omega) (by omega) (by omega)) nil_P nil_D rfl rfl ⟨rfl, rfl⟩ ⟨by decide, by decide, by decide, by decide⟩ (Nat.le_of_ble_eq_true rfl) d_Zone_lastChangeUpTo_40 ?_
    exact p_lret hx hb hr hlk d_Zone_lastChangeUpTo_43 (by unfold cBack; rw [if_neg h4]; rfl)
  · refine lv_ldc2 (v := lL (-1000000000000000)) hx hb hown (hk _ kc_Zone_49 _) d_Zone_lastChangeUpTo_7 ?_
    exact p_lret hx hb hr hlk d_Zone_lastChangeUpTo_10 (by unfold cBack; rw [if_pos h4])
abbrev rm_Zone_firstChangeBehind : Room := { frames := 4, cells := 0, slots := 0, locals := 97 }
set_option maxHeartbeats 4000000 in
set_option maxRecDepth 100000 in
theorem ct_Zone_firstChangeBehind (l : Launch) (D : va_G) (tys : List (ClassId × FieldType)) (z : Nat) (b0 : Nat) (e0 : Nat) (off : Int) (sv : Int) (b1 : Int) (b2 : Int) (b3 : Int) (b4 : Int) (e1 : Int) (e2 : Int) (e3 : Int) (e4 : Int) (t : Int) (go1 : -840 ≤ off) (go2 : off ≤ 840) (gs1 : 0 ≤ sv) (gs2 : sv ≤ 120) (gb : 0 < sv → rOk b1 b2 b3 b4) (ge : 0 < sv → rOk e1 e2 e3 e4) (gt1 : -60000000 ≤ t) (gt2 : t ≤ 10413900000000) : pMet l y_Zone_firstChangeBehind c_Zone_firstChangeBehind 3 (some .long) rm_Zone_firstChangeBehind D tys [.ref z, .long (lL t)] [(z, .inr (2, [.int (iI off), .int (iI sv), .ref b0, .ref e0])), (b0, .inr (0, [.int (iI b1), .int (iI b2), .int (iI b3), .int (iI b4)])), (e0, .inr (0, [.int (iI e1), .int (iI e2), .int (iI e3), .int (iI e4)]))] (.long (lL (cFwd off sv (b1, b2, b3, b4) (e1, e2, e3, e4) t))) := by
  refine pMet_of (by decide) (Nat.le_of_ble_eq_true rfl) ?_
  intro p e s m below meth c hx hb hr hown hlk hml hk hK hP hD ls hl
  have hl : lv_has ls 3 [(0, .ref z), (1, .long (lL t))] := hl
  refine lv_aload_n hx hb d_Zone_firstChangeBehind_0 rfl (lv_at hl 0 rfl) ?_
  refine g_get hx hb hk hown hK hP 0 rfl f_Zone_25 rfl d_Zone_firstChangeBehind_1 ?_
  refine ri_if_ne (tgt := 11) hx hb d_Zone_firstChangeBehind_4 (by decide) (fun h4 => ?_) (fun h4 => ?_)
  · have gB := gb (by omega)
    have gE := ge (by omega)
    have q1 := rNext_bd gB (t := t) (sh := off) (by omega) (by omega) (by omega) (by omega)
    have q2 := rNext_bd gE (t := t) (sh := off + sv) (by omega) (by omega) (by omega) (by omega)
    refine lv_aload_n hx hb d_Zone_firstChangeBehind_11 rfl (lv_at hl 0 rfl) ?_
    refine g_get hx hb hk hown hK hP 0 rfl f_Zone_12 rfl d_Zone_firstChangeBehind_12 ?_
    refine lv_lload_n hx hb d_Zone_firstChangeBehind_15 rfl (lv_at hl 1 rfl) ?_
    refine lv_aload_n hx hb d_Zone_firstChangeBehind_16 rfl (lv_at hl 0 rfl) ?_
    refine g_get hx hb hk hown hK hP 0 rfl f_Zone_21 rfl d_Zone_firstChangeBehind_17 ?_
    refine p_callV (rest := []) (q0 := 0) hx hb (hml.trans hl.1.symm) hown hk hK k_Zone_59 (ct_Rule_firstBehind l D tys b0 b1 b2 b3 b4 t off gB (by omega) (by omega) (by omega) (by omega) (by omega) (by omega)) (w_subP (is := [1]) hP rfl) (w_subD (is := [1]) hD rfl rfl) rfl rfl rfl rfl ⟨rfl, rfl⟩ ⟨by decide, by decide, by decide, by decide⟩ (Nat.le_of_ble_eq_true rfl) d_Zone_firstChangeBehind_20 ?_
    refine lv_aload_n hx hb d_Zone_firstChangeBehind_23 rfl (lv_at hl 0 rfl) ?_
    refine g_get hx hb hk hown hK hP 0 rfl f_Zone_18 rfl d_Zone_firstChangeBehind_24 ?_
    refine lv_lload_n hx hb d_Zone_firstChangeBehind_27 rfl (lv_at hl 1 rfl) ?_
    refine lv_aload_n hx hb d_Zone_firstChangeBehind_28 rfl (lv_at hl 0 rfl) ?_
    refine g_get hx hb hk hown hK hP 0 rfl f_Zone_21 rfl d_Zone_firstChangeBehind_29 ?_
    refine lv_aload_n hx hb d_Zone_firstChangeBehind_32 rfl (lv_at hl 0 rfl) ?_
    refine g_get hx hb hk hown hK hP 0 rfl f_Zone_25 rfl d_Zone_firstChangeBehind_33 ?_
    refine ri_iadd hx hb d_Zone_firstChangeBehind_36 ?_
    refine p_callV (rest := [.long (lL (rNext b1 b2 b3 b4 t off))]) (q0 := 0) hx hb (hml.trans hl.1.symm) hown hk hK k_Zone_59 (ct_Rule_firstBehind l D tys e0 e1 e2 e3 e4 t (off + sv) gE (by omega) (by omega) (by omega) (by omega) (by omega) (by omega)) (w_subP (is := [2]) hP rfl) (w_subD (is := [2]) hD rfl rfl) rfl rfl rfl rfl ⟨rfl, rfl⟩ ⟨by decide, by decide, by decide, by decide⟩ (Nat.le_of_ble_eq_true rfl) d_Zone_firstChangeBehind_37 ?_
    refine p_callS (rest := []) hx hb (hml.trans hl.1.symm) hown hk hK k_Zone_62 (ct_Math_minJ l D tys (rNext b1 b2 b3 b4 t off) (rNext e1 e2 e3 e4 t (off + sv)) (by omega) (by omega) (by omega) (by omega)) nil_P nil_D rfl rfl ⟨rfl, rfl⟩ ⟨by decide, by decide, by decide, by decide⟩ (Nat.le_of_ble_eq_true rfl) d_Zone_firstChangeBehind_40 ?_
    exact p_lret hx hb hr hlk d_Zone_firstChangeBehind_43 (by unfold cFwd; rw [if_neg h4]; rfl)
  · refine lv_ldc2 (v := lL 1000000000000000) hx hb hown (hk _ kc_Zone_57 _) d_Zone_firstChangeBehind_7 ?_
    exact p_lret hx hb hr hlk d_Zone_firstChangeBehind_10 (by unfold cFwd; rw [if_pos h4])
