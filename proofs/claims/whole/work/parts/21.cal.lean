/-! Contracts: Calendar. By program (wip/whole/m_cal.py). -/
abbrev rm_Cal_lengthOf : Room := { frames := 0, cells := 0, slots := 0, locals := 0 }
set_option maxHeartbeats 4000000 in
set_option maxRecDepth 100000 in
theorem ct_Cal_lengthOf (l : Launch) (D : va_G) (tys : List (ClassId × FieldType)) (y : Int) (mo : Int) (gy1 : 1900 ≤ y) (gy2 : y ≤ 2400) (gm1 : 1 ≤ mo) (gm2 : mo ≤ 12) : pMet l y_Cal_lengthOf c_Cal_lengthOf 2 (some .int) rm_Cal_lengthOf D tys [.int (iI y), .int (iI mo)] [] (.int (iI (cLen y mo))) := by
  refine pMet_of (by decide) (Nat.le_of_ble_eq_true rfl) ?_
  intro p e s m below meth c hx hb hr hown hlk hml hk hK hP hD ls hl
  have hl : lv_has ls 2 [(0, .int (iI y)), (1, .int (iI mo))] := hl
  refine lv_iload_n hx hb d_Cal_lengthOf_0 rfl (lv_at hl 1 rfl) ?_
  obtain rfl | rfl | rfl | rfl | rfl | rfl | rfl | rfl | rfl | rfl | rfl | rfl : mo = 1 ∨ mo = 2 ∨ mo = 3 ∨ mo = 4 ∨ mo = 5 ∨ mo = 6 ∨ mo = 7 ∨ mo = 8 ∨ mo = 9 ∨ mo = 10 ∨ mo = 11 ∨ mo = 12 := by omega
  · refine lv_tableOut (tgt := 88) hx hb d_Cal_lengthOf_1 (by decide) (by decide) ?_
    refine lv_bipush (v := iI 31) hx hb d_Cal_lengthOf_88 (by decide) ?_
    exact p_iret hx hb hr hlk d_Cal_lengthOf_90 (by simp [cLen])
  · refine lv_tableIn (off := 55) (tgt := 56) hx hb d_Cal_lengthOf_1 (by decide) (by decide) (by decide) (by decide) ?_
    refine lv_iload_n hx hb d_Cal_lengthOf_56 rfl (lv_at hl 0 rfl) ?_
    refine lv_iconst (v := iI 4) hx hb d_Cal_lengthOf_57 rfl ?_
    refine ri_irem hx hb d_Cal_lengthOf_58 ?_
    refine ri_if_ne (tgt := 82) hx hb d_Cal_lengthOf_59 (by decide) (fun h59 => ?_) (fun h59 => ?_)
    · refine lv_bipush (v := iI 28) hx hb d_Cal_lengthOf_82 (by decide) ?_
      have hc : cLeap y = false := by simp [cLeap]; omega
      exact p_iret hx hb hr hlk d_Cal_lengthOf_84 (by rw [show cLen y 2 = (if cLeap y then 29 else 28) from rfl, hc]; rfl)
    · refine lv_iload_n hx hb d_Cal_lengthOf_62 rfl (lv_at hl 0 rfl) ?_
      refine lv_bipush (v := iI 100) hx hb d_Cal_lengthOf_63 (by decide) ?_
      refine ri_irem hx hb d_Cal_lengthOf_65 ?_
      refine ri_if_ne (tgt := 77) hx hb d_Cal_lengthOf_66 (by decide) (fun h66 => ?_) (fun h66 => ?_)
      · refine lv_bipush (v := iI 29) hx hb d_Cal_lengthOf_77 (by decide) ?_
        refine lv_goto (tgt := 84) hx hb d_Cal_lengthOf_79 (by decide) ?_
        have hc : cLeap y = true := by simp [cLeap]; omega
        exact p_iret hx hb hr hlk d_Cal_lengthOf_84 (by rw [show cLen y 2 = (if cLeap y then 29 else 28) from rfl, hc]; rfl)
      · refine lv_iload_n hx hb d_Cal_lengthOf_69 rfl (lv_at hl 0 rfl) ?_
        refine lv_sipush (v := iI 400) hx hb d_Cal_lengthOf_70 (by decide) ?_
        refine ri_irem hx hb d_Cal_lengthOf_73 ?_
        refine ri_if_ne (tgt := 82) hx hb d_Cal_lengthOf_74 (by decide) (fun h74 => ?_) (fun h74 => ?_)
        · refine lv_bipush (v := iI 28) hx hb d_Cal_lengthOf_82 (by decide) ?_
          have hc : cLeap y = false := by simp [cLeap]; omega
          exact p_iret hx hb hr hlk d_Cal_lengthOf_84 (by rw [show cLen y 2 = (if cLeap y then 29 else 28) from rfl, hc]; rfl)
        · refine lv_bipush (v := iI 29) hx hb d_Cal_lengthOf_77 (by decide) ?_
          refine lv_goto (tgt := 84) hx hb d_Cal_lengthOf_79 (by decide) ?_
          have hc : cLeap y = true := by simp [cLeap]; omega
          exact p_iret hx hb hr hlk d_Cal_lengthOf_84 (by rw [show cLen y 2 = (if cLeap y then 29 else 28) from rfl, hc]; rfl)
  · refine lv_tableIn (off := 87) (tgt := 88) hx hb d_Cal_lengthOf_1 (by decide) (by decide) (by decide) (by decide) ?_
    refine lv_bipush (v := iI 31) hx hb d_Cal_lengthOf_88 (by decide) ?_
    exact p_iret hx hb hr hlk d_Cal_lengthOf_90 (by simp [cLen])
  · refine lv_tableIn (off := 84) (tgt := 85) hx hb d_Cal_lengthOf_1 (by decide) (by decide) (by decide) (by decide) ?_
    refine lv_bipush (v := iI 30) hx hb d_Cal_lengthOf_85 (by decide) ?_
    exact p_iret hx hb hr hlk d_Cal_lengthOf_87 (by simp [cLen])
  · refine lv_tableIn (off := 87) (tgt := 88) hx hb d_Cal_lengthOf_1 (by decide) (by decide) (by decide) (by decide) ?_
    refine lv_bipush (v := iI 31) hx hb d_Cal_lengthOf_88 (by decide) ?_
    exact p_iret hx hb hr hlk d_Cal_lengthOf_90 (by simp [cLen])
  · refine lv_tableIn (off := 84) (tgt := 85) hx hb d_Cal_lengthOf_1 (by decide) (by decide) (by decide) (by decide) ?_
    refine lv_bipush (v := iI 30) hx hb d_Cal_lengthOf_85 (by decide) ?_
    exact p_iret hx hb hr hlk d_Cal_lengthOf_87 (by simp [cLen])
  · refine lv_tableIn (off := 87) (tgt := 88) hx hb d_Cal_lengthOf_1 (by decide) (by decide) (by decide) (by decide) ?_
    refine lv_bipush (v := iI 31) hx hb d_Cal_lengthOf_88 (by decide) ?_
    exact p_iret hx hb hr hlk d_Cal_lengthOf_90 (by simp [cLen])
  · refine lv_tableIn (off := 87) (tgt := 88) hx hb d_Cal_lengthOf_1 (by decide) (by decide) (by decide) (by decide) ?_
    refine lv_bipush (v := iI 31) hx hb d_Cal_lengthOf_88 (by decide) ?_
    exact p_iret hx hb hr hlk d_Cal_lengthOf_90 (by simp [cLen])
  · refine lv_tableIn (off := 84) (tgt := 85) hx hb d_Cal_lengthOf_1 (by decide) (by decide) (by decide) (by decide) ?_
    refine lv_bipush (v := iI 30) hx hb d_Cal_lengthOf_85 (by decide) ?_
    exact p_iret hx hb hr hlk d_Cal_lengthOf_87 (by simp [cLen])
  · refine lv_tableIn (off := 87) (tgt := 88) hx hb d_Cal_lengthOf_1 (by decide) (by decide) (by decide) (by decide) ?_
    refine lv_bipush (v := iI 31) hx hb d_Cal_lengthOf_88 (by decide) ?_
    exact p_iret hx hb hr hlk d_Cal_lengthOf_90 (by simp [cLen])
  · refine lv_tableIn (off := 84) (tgt := 85) hx hb d_Cal_lengthOf_1 (by decide) (by decide) (by decide) (by decide) ?_
    refine lv_bipush (v := iI 30) hx hb d_Cal_lengthOf_85 (by decide) ?_
    exact p_iret hx hb hr hlk d_Cal_lengthOf_87 (by simp [cLen])
  · refine lv_tableOut (tgt := 88) hx hb d_Cal_lengthOf_1 (by decide) (by decide) ?_
    refine lv_bipush (v := iI 31) hx hb d_Cal_lengthOf_88 (by decide) ?_
    exact p_iret hx hb hr hlk d_Cal_lengthOf_90 (by simp [cLen])
abbrev rm_Cal_firstDayOf : Room := { frames := 1, cells := 0, slots := 0, locals := 21 }
set_option maxHeartbeats 4000000 in
set_option maxRecDepth 100000 in
theorem ct_Cal_firstDayOf (l : Launch) (D : va_G) (tys : List (ClassId × FieldType)) (y : Int) (mo : Int) (gy1 : 1900 ≤ y) (gy2 : y ≤ 2400) (gm1 : 1 ≤ mo) (gm2 : mo ≤ 12) : pMet l y_Cal_firstDayOf c_Cal_firstDayOf 6 (some .int) rm_Cal_firstDayOf D tys [.int (iI y), .int (iI mo)] [] (.int (iI (cFD y mo))) := by
  refine pMet_of (by decide) (Nat.le_of_ble_eq_true rfl) ?_
  intro p e s m below meth c hx hb hr hown hlk hml hk hK hP hD ls hl
  have hl : lv_has ls 6 [(0, .int (iI y)), (1, .int (iI mo))] := hl
  refine lv_iload_n hx hb d_Cal_firstDayOf_0 rfl (lv_at hl 0 rfl) ?_
  refine lv_iconst (v := iI 1) hx hb d_Cal_firstDayOf_1 rfl ?_
  refine ri_isub hx hb d_Cal_firstDayOf_2 ?_
  refine lv_istore_n (lv' := [(2, .int (iI (y - 1))), (0, .int (iI y)), (1, .int (iI mo))]) hx hb d_Cal_firstDayOf_3 rfl hl (by decide) rfl (fun ls hl => ?_)
  refine lv_iload_n hx hb d_Cal_firstDayOf_4 rfl (lv_at hl 0 rfl) ?_
  refine lv_iconst (v := iI 4) hx hb d_Cal_firstDayOf_5 rfl ?_
  refine ri_idiv hx hb d_Cal_firstDayOf_6 ?_
  refine lv_iload_n hx hb d_Cal_firstDayOf_7 rfl (lv_at hl 0 rfl) ?_
  refine lv_bipush (v := iI 100) hx hb d_Cal_firstDayOf_8 (by decide) ?_
  refine ri_idiv hx hb d_Cal_firstDayOf_10 ?_
  refine ri_isub hx hb d_Cal_firstDayOf_11 ?_
  refine lv_iload_n hx hb d_Cal_firstDayOf_12 rfl (lv_at hl 0 rfl) ?_
  refine lv_sipush (v := iI 400) hx hb d_Cal_firstDayOf_13 (by decide) ?_
  refine ri_idiv hx hb d_Cal_firstDayOf_16 ?_
  refine ri_iadd hx hb d_Cal_firstDayOf_17 ?_
  refine lv_sipush (v := iI 477) hx hb d_Cal_firstDayOf_18 (by decide) ?_
  refine ri_isub hx hb d_Cal_firstDayOf_21 ?_
  refine lv_istore_n (lv' := [(3, .int (iI (((((y - 1) / 4) - ((y - 1) / 100)) + ((y - 1) / 400)) - 477))), (2, .int (iI (y - 1))), (0, .int (iI y)), (1, .int (iI mo))]) hx hb d_Cal_firstDayOf_22 rfl hl (by decide) rfl (fun ls hl => ?_)
  refine lv_sipush (v := iI 365) hx hb d_Cal_firstDayOf_23 (by decide) ?_
  refine lv_iload_n hx hb d_Cal_firstDayOf_26 rfl (lv_at hl 2 rfl) ?_
  refine lv_sipush (v := iI 1970) hx hb d_Cal_firstDayOf_27 (by decide) ?_
  refine ri_isub hx hb d_Cal_firstDayOf_30 ?_
  refine ri_imul hx hb d_Cal_firstDayOf_31 ?_
  refine lv_iload_n hx hb d_Cal_firstDayOf_32 rfl (lv_at hl 0 rfl) ?_
  refine ri_iadd hx hb d_Cal_firstDayOf_33 ?_
  refine ri_i (show (365 * (y - 1970)) + (((((y - 1) / 4) - ((y - 1) / 100)) + ((y - 1) / 400)) - 477) = cFD y 1 from by rw [cFD_1]; unfold cYear; omega) ?_
  refine lv_istore (lv' := [(4, .int (iI (cFD y 1))), (3, .int (iI (((((y - 1) / 4) - ((y - 1) / 100)) + ((y - 1) / 400)) - 477))), (2, .int (iI (y - 1))), (0, .int (iI y)), (1, .int (iI mo))]) hx hb d_Cal_firstDayOf_34 hl (by decide) rfl (fun ls hl => ?_)
  refine lv_iconst (v := iI 1) hx hb d_Cal_firstDayOf_36 rfl ?_
  refine lv_istore (lv' := [(5, .int (iI 1)), (4, .int (iI (cFD y 1))), (3, .int (iI (((((y - 1) / 4) - ((y - 1) / 100)) + ((y - 1) / 400)) - 477))), (2, .int (iI (y - 1))), (0, .int (iI y)), (1, .int (iI mo))]) hx hb d_Cal_firstDayOf_37 hl (by decide) rfl (fun ls hl => ?_)
  have loop39 : ∀ (n : Nat) (k : Int) (ls : Array Slot), (1 ≤ k) → (k ≤ mo) → (mo - k).toNat = n → lv_has ls 6 [(5, .int (iI k)), (4, .int (iI (cFD y k))), (0, .int (iI y)), (1, .int (iI mo))] → W p l e rm_Cal_firstDayOf s m ([.int (iI y), .int (iI mo)] : List Value).toArray below meth c s.heap [] 0 0 (MQ below (pQ (.int (iI (cFD y mo)))) ([.int (iI y), .int (iI mo)] : List Value).toArray s 0 0 (fun _ => False)) (F0 m 39 ls []) := by
    intro n
    induction n using Nat.strongRecOn with
    | _ n ih =>
    intro k ls hk1 hk2 hn hl
    refine lv_iload hx hb d_Cal_firstDayOf_39 (lv_at hl 0 rfl) ?_
    refine lv_iload_n hx hb d_Cal_firstDayOf_41 rfl (lv_at hl 3 rfl) ?_
    refine ri_icmp_ge (tgt := 62) hx hb d_Cal_firstDayOf_42 (by decide) (fun h42 => ?_) (fun h42 => ?_)
    · refine lv_iload hx hb d_Cal_firstDayOf_62 (lv_at hl 1 rfl) ?_
      exact p_iret hx hb hr hlk d_Cal_firstDayOf_64 (by rw [show k = mo by omega])
    · refine lv_iload hx hb d_Cal_firstDayOf_45 (lv_at hl 1 rfl) ?_
      refine lv_iload_n hx hb d_Cal_firstDayOf_47 rfl (lv_at hl 2 rfl) ?_
      refine lv_iload hx hb d_Cal_firstDayOf_48 (lv_at hl 0 rfl) ?_
      refine p_callS (rest := [.int (iI (cFD y k))]) hx hb (hml.trans hl.1.symm) hown hk hK k_Cal_50 (ct_Cal_lengthOf l D tys y k (by omega) (by omega) (by omega) (by omega)) nil_P nil_D rfl rfl ⟨rfl, rfl⟩ ⟨by decide, by decide, by decide, by decide⟩ (Nat.le_of_ble_eq_true rfl) d_Cal_firstDayOf_50 ?_
      refine ri_iadd hx hb d_Cal_firstDayOf_53 ?_
      refine ri_i (show (cFD y k) + (cLen y k) = cFD y (k + 1) from (cFD_succ y hk1).symm) ?_
      refine lv_istore (lv' := [(4, .int (iI (cFD y (k + 1)))), (5, .int (iI k)), (0, .int (iI y)), (1, .int (iI mo))]) hx hb d_Cal_firstDayOf_54 hl (by decide) rfl (fun ls hl => ?_)
      refine lv_iinc (k := 1) (v := iI (k + 1)) (lv' := [(5, .int (iI (k + 1))), (4, .int (iI (cFD y (k + 1)))), (0, .int (iI y)), (1, .int (iI mo))]) hx hb d_Cal_firstDayOf_56 hl rfl (iI_add _ _) (by decide) rfl (fun ls hl => ?_)
      refine lv_goto (tgt := 39) hx hb d_Cal_firstDayOf_59 (by decide) ?_
      exact ih _ (by omega) (k + 1) ls (by omega) (by omega) rfl (lv_sub hl [0, 1, 2, 3] rfl)
  exact loop39 _ 1 ls (by omega) (by omega) rfl (lv_sub hl [0, 1, 4, 5] rfl)
abbrev rm_Cal_dayAt : Room := { frames := 1, cells := 0, slots := 0, locals := 25 }
set_option maxHeartbeats 4000000 in
set_option maxRecDepth 100000 in
theorem ct_Cal_dayAt (l : Launch) (D : va_G) (tys : List (ClassId × FieldType)) (t : Int) (gt1 : -4611686018427387904 ≤ t) (gt2 : t ≤ 4611686018427387903) : pMet l y_Cal_dayAt c_Cal_dayAt 2 (some .int) rm_Cal_dayAt D tys [.long (lL t)] [] (.int (iI (t / 86400000))) := by
  refine pMet_of (by decide) (Nat.le_of_ble_eq_true rfl) ?_
  intro p e s m below meth c hx hb hr hown hlk hml hk hK hP hD ls hl
  have hl : lv_has ls 2 [(0, .long (lL t))] := hl
  refine lv_lload_n hx hb d_Cal_dayAt_0 rfl (lv_at hl 0 rfl) ?_
  refine lv_ldc2 (v := lL 86400000) hx hb hown (hk _ kc_Cal_31 _) d_Cal_dayAt_1 ?_
  refine p_callS (rest := []) hx hb (hml.trans hl.1.symm) hown hk hK k_Cal_43 (ct_Math_floorDivJ l D tys t 86400000 (by omega) (by omega) (by omega) (by omega)) nil_P nil_D rfl rfl ⟨rfl, rfl⟩ ⟨by decide, by decide, by decide, by decide⟩ (Nat.le_of_ble_eq_true rfl) d_Cal_dayAt_4 ?_
  refine ri_l2i hx hb d_Cal_dayAt_7 ?_
  exact p_iret hx hb hr hlk d_Cal_dayAt_8 (by rfl)
abbrev rm_Cal_weekdayOf : Room := { frames := 1, cells := 0, slots := 0, locals := 22 }
set_option maxHeartbeats 4000000 in
set_option maxRecDepth 100000 in
theorem ct_Cal_weekdayOf (l : Launch) (D : va_G) (tys : List (ClassId × FieldType)) (d : Int) (gd1 : -1000000 ≤ d) (gd2 : d ≤ 1000000) : pMet l y_Cal_weekdayOf c_Cal_weekdayOf 1 (some .int) rm_Cal_weekdayOf D tys [.int (iI d)] [] (.int (iI (cWd d))) := by
  refine pMet_of (by decide) (Nat.le_of_ble_eq_true rfl) ?_
  intro p e s m below meth c hx hb hr hown hlk hml hk hK hP hD ls hl
  have hl : lv_has ls 1 [(0, .int (iI d))] := hl
  refine lv_iload_n hx hb d_Cal_weekdayOf_0 rfl (lv_at hl 0 rfl) ?_
  refine lv_iconst (v := iI 4) hx hb d_Cal_weekdayOf_1 rfl ?_
  refine ri_iadd hx hb d_Cal_weekdayOf_2 ?_
  refine lv_bipush (v := iI 7) hx hb d_Cal_weekdayOf_3 (by decide) ?_
  refine p_callS (rest := []) hx hb (hml.trans hl.1.symm) hown hk hK k_Cal_46 (ct_Math_floorModI l D tys (d + 4) 7 (by omega) (by omega) (by omega) (by omega)) nil_P nil_D rfl rfl ⟨rfl, rfl⟩ ⟨by decide, by decide, by decide, by decide⟩ (Nat.le_of_ble_eq_true rfl) d_Cal_weekdayOf_5 ?_
  exact p_iret hx hb hr hlk d_Cal_weekdayOf_8 (by rfl)
abbrev rm_Cal_yearOf : Room := { frames := 2, cells := 0, slots := 0, locals := 46 }
set_option maxHeartbeats 4000000 in
set_option maxRecDepth 100000 in
theorem ct_Cal_yearOf (l : Launch) (D : va_G) (tys : List (ClassId × FieldType)) (d : Int) (gd1 : -365 ≤ d) (gd2 : d ≤ 122000) : pMet l y_Cal_yearOf c_Cal_yearOf 2 (some .int) rm_Cal_yearOf D tys [.int (iI d)] [] (.int (iI (cY d))) := by
  refine pMet_of (by decide) (Nat.le_of_ble_eq_true rfl) ?_
  intro p e s m below meth c hx hb hr hown hlk hml hk hK hP hD ls hl
  have hl : lv_has ls 2 [(0, .int (iI d))] := hl
  refine lv_sipush (v := iI 1970) hx hb d_Cal_yearOf_0 (by decide) ?_
  refine lv_iload_n hx hb d_Cal_yearOf_3 rfl (lv_at hl 0 rfl) ?_
  refine lv_sipush (v := iI 365) hx hb d_Cal_yearOf_4 (by decide) ?_
  refine p_callS (rest := [.int (iI 1970)]) hx hb (hml.trans hl.1.symm) hown hk hK k_Cal_48 (ct_Math_floorDivI l D tys d 365 (by omega) (by omega) (by omega) (by omega)) nil_P nil_D rfl rfl ⟨rfl, rfl⟩ ⟨by decide, by decide, by decide, by decide⟩ (Nat.le_of_ble_eq_true rfl) d_Cal_yearOf_7 ?_
  refine ri_iadd hx hb d_Cal_yearOf_10 ?_
  refine lv_istore_n (lv' := [(1, .int (iI (1970 + (d / 365)))), (0, .int (iI d))]) hx hb d_Cal_yearOf_11 rfl hl (by decide) rfl (fun ls hl => ?_)
  refine lv_iload_n hx hb d_Cal_yearOf_12 rfl (lv_at hl 0 rfl) ?_
  refine lv_iconst (v := iI 1) hx hb d_Cal_yearOf_13 rfl ?_
  refine p_callS (rest := []) hx hb (hml.trans hl.1.symm) hown hk hK k_Cal_37 (ct_Cal_firstDayOf l D tys (1970 + (d / 365)) 1 (by omega) (by omega) (by omega) (by omega)) nil_P nil_D rfl rfl ⟨rfl, rfl⟩ ⟨by decide, by decide, by decide, by decide⟩ (Nat.le_of_ble_eq_true rfl) d_Cal_yearOf_14 ?_
  refine ri_i (show cFD (1970 + (d / 365)) 1 = cYear (1970 + d / 365) from rfl) ?_
  have gY := cYear_b (y := 1970 + d / 365) (by omega) (by omega)
  refine lv_iload_n hx hb d_Cal_yearOf_17 rfl (lv_at hl 1 rfl) ?_
  refine ri_icmp_le (tgt := 27) hx hb d_Cal_yearOf_18 (by decide) (fun h18 => ?_) (fun h18 => ?_)
  · refine lv_iload_n hx hb d_Cal_yearOf_27 rfl (lv_at hl 0 rfl) ?_
    exact p_iret hx hb hr hlk d_Cal_yearOf_28 (by unfold cY; first | rw [if_neg (by omega)] | rw [if_pos (by omega)])
  · refine lv_iload_n hx hb d_Cal_yearOf_21 rfl (lv_at hl 0 rfl) ?_
    refine lv_iconst (v := iI 1) hx hb d_Cal_yearOf_22 rfl ?_
    refine ri_isub hx hb d_Cal_yearOf_23 ?_
    refine lv_goto (tgt := 28) hx hb d_Cal_yearOf_24 (by decide) ?_
    exact p_iret hx hb hr hlk d_Cal_yearOf_28 (by unfold cY; first | rw [if_neg (by omega)] | rw [if_pos (by omega)])
