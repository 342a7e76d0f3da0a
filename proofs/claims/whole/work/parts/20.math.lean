/-! Contracts: Math, Calendar. By program (wip/whole/m_math.py). -/
abbrev rm_Math_minI : Room := { frames := 0, cells := 0, slots := 0, locals := 0 }
set_option maxHeartbeats 4000000 in
set_option maxRecDepth 100000 in
theorem ct_Math_minI (l : Launch) (D : va_G) (tys : List (ClassId × FieldType)) (a : Int) (b : Int) (ga1 : -2147483648 ≤ a) (ga2 : a ≤ 2147483647) (gb1 : -2147483648 ≤ b) (gb2 : b ≤ 2147483647) : pMet l y_Math_minI c_Math_minI 2 (some .int) rm_Math_minI D tys [.int (iI a), .int (iI b)] [] (.int (iI (min a b))) := by
  refine pMet_ofF (by decide +kernel) (Nat.le_of_ble_eq_true rfl) ?_
  intro p e s m below meth c hx hb hr hown hlk hml hk hK hP hD ls hl
  have hl : lv_has ls 2 [(0, .int (iI a)), (1, .int (iI b))] := hl
  refine lv_iload_n hx hb d_Math_minI_0 rfl (lv_at hl 0 rfl) ?_
  refine lv_iload_n hx hb d_Math_minI_1 rfl (lv_at hl 1 rfl) ?_
  refine ri_icmp_gt (tgt := 9) hx hb d_Math_minI_2 (by decide) (fun h2 => ?_) (fun h2 => ?_)
  · refine lv_iload_n hx hb d_Math_minI_9 rfl (lv_at hl 1 rfl) ?_
    exact p_iret hx hb hr hlk d_Math_minI_10 (by omega)
  · refine lv_iload_n hx hb d_Math_minI_5 rfl (lv_at hl 0 rfl) ?_
    refine lv_goto (tgt := 10) hx hb d_Math_minI_6 (by decide) ?_
    exact p_iret hx hb hr hlk d_Math_minI_10 (by omega)
abbrev rm_Math_maxI : Room := { frames := 0, cells := 0, slots := 0, locals := 0 }
set_option maxHeartbeats 4000000 in
set_option maxRecDepth 100000 in
theorem ct_Math_maxI (l : Launch) (D : va_G) (tys : List (ClassId × FieldType)) (a : Int) (b : Int) (ga1 : -2147483648 ≤ a) (ga2 : a ≤ 2147483647) (gb1 : -2147483648 ≤ b) (gb2 : b ≤ 2147483647) : pMet l y_Math_maxI c_Math_maxI 2 (some .int) rm_Math_maxI D tys [.int (iI a), .int (iI b)] [] (.int (iI (max a b))) := by
  refine pMet_ofF (by decide +kernel) (Nat.le_of_ble_eq_true rfl) ?_
  intro p e s m below meth c hx hb hr hown hlk hml hk hK hP hD ls hl
  have hl : lv_has ls 2 [(0, .int (iI a)), (1, .int (iI b))] := hl
  refine lv_iload_n hx hb d_Math_maxI_0 rfl (lv_at hl 0 rfl) ?_
  refine lv_iload_n hx hb d_Math_maxI_1 rfl (lv_at hl 1 rfl) ?_
  refine ri_icmp_lt (tgt := 9) hx hb d_Math_maxI_2 (by decide) (fun h2 => ?_) (fun h2 => ?_)
  · refine lv_iload_n hx hb d_Math_maxI_9 rfl (lv_at hl 1 rfl) ?_
    exact p_iret hx hb hr hlk d_Math_maxI_10 (by omega)
  · refine lv_iload_n hx hb d_Math_maxI_5 rfl (lv_at hl 0 rfl) ?_
    refine lv_goto (tgt := 10) hx hb d_Math_maxI_6 (by decide) ?_
    exact p_iret hx hb hr hlk d_Math_maxI_10 (by omega)
abbrev rm_Math_minJ : Room := { frames := 0, cells := 0, slots := 0, locals := 0 }
set_option maxHeartbeats 4000000 in
set_option maxRecDepth 100000 in
theorem ct_Math_minJ (l : Launch) (D : va_G) (tys : List (ClassId × FieldType)) (a : Int) (b : Int) (ga1 : -9223372036854775808 ≤ a) (ga2 : a ≤ 9223372036854775807) (gb1 : -9223372036854775808 ≤ b) (gb2 : b ≤ 9223372036854775807) : pMet l y_Math_minJ c_Math_minJ 4 (some .long) rm_Math_minJ D tys [.long (lL a), .long (lL b)] [] (.long (lL (min a b))) := by
  refine pMet_ofF (by decide +kernel) (Nat.le_of_ble_eq_true rfl) ?_
  intro p e s m below meth c hx hb hr hown hlk hml hk hK hP hD ls hl
  have hl : lv_has ls 4 [(0, .long (lL a)), (2, .long (lL b))] := hl
  refine lv_lload_n hx hb d_Math_minJ_0 rfl (lv_at hl 0 rfl) ?_
  refine lv_lload_n hx hb d_Math_minJ_1 rfl (lv_at hl 1 rfl) ?_
  refine ri_lcmp_gt (tgt := 10) hx hb d_Math_minJ_2 d_Math_minJ_3 (by decide) (fun h2 => ?_) (fun h2 => ?_)
  · refine lv_lload_n hx hb d_Math_minJ_10 rfl (lv_at hl 1 rfl) ?_
    exact p_lret hx hb hr hlk d_Math_minJ_11 (by omega)
  · refine lv_lload_n hx hb d_Math_minJ_6 rfl (lv_at hl 0 rfl) ?_
    refine lv_goto (tgt := 11) hx hb d_Math_minJ_7 (by decide) ?_
    exact p_lret hx hb hr hlk d_Math_minJ_11 (by omega)
abbrev rm_Math_maxJ : Room := { frames := 0, cells := 0, slots := 0, locals := 0 }
set_option maxHeartbeats 4000000 in
set_option maxRecDepth 100000 in
theorem ct_Math_maxJ (l : Launch) (D : va_G) (tys : List (ClassId × FieldType)) (a : Int) (b : Int) (ga1 : -9223372036854775808 ≤ a) (ga2 : a ≤ 9223372036854775807) (gb1 : -9223372036854775808 ≤ b) (gb2 : b ≤ 9223372036854775807) : pMet l y_Math_maxJ c_Math_maxJ 4 (some .long) rm_Math_maxJ D tys [.long (lL a), .long (lL b)] [] (.long (lL (max a b))) := by
  refine pMet_ofF (by decide +kernel) (Nat.le_of_ble_eq_true rfl) ?_
  intro p e s m below meth c hx hb hr hown hlk hml hk hK hP hD ls hl
  have hl : lv_has ls 4 [(0, .long (lL a)), (2, .long (lL b))] := hl
  refine lv_lload_n hx hb d_Math_maxJ_0 rfl (lv_at hl 0 rfl) ?_
  refine lv_lload_n hx hb d_Math_maxJ_1 rfl (lv_at hl 1 rfl) ?_
  refine ri_lcmp_lt (tgt := 10) hx hb d_Math_maxJ_2 d_Math_maxJ_3 (by decide) (fun h2 => ?_) (fun h2 => ?_)
  · refine lv_lload_n hx hb d_Math_maxJ_10 rfl (lv_at hl 1 rfl) ?_
    exact p_lret hx hb hr hlk d_Math_maxJ_11 (by omega)
  · refine lv_lload_n hx hb d_Math_maxJ_6 rfl (lv_at hl 0 rfl) ?_
    refine lv_goto (tgt := 11) hx hb d_Math_maxJ_7 (by decide) ?_
    exact p_lret hx hb hr hlk d_Math_maxJ_11 (by omega)
abbrev rm_Math_floorDivI : Room := { frames := 0, cells := 0, slots := 0, locals := 0 }
set_option maxHeartbeats 4000000 in
set_option maxRecDepth 100000 in
theorem ct_Math_floorDivI (l : Launch) (D : va_G) (tys : List (ClassId × FieldType)) (a : Int) (b : Int) (ga1 : -1073741824 ≤ a) (ga2 : a ≤ 1073741823) (gb1 : 0 < b) (gb2 : b ≤ 2147483647) : pMet l y_Math_floorDivI c_Math_floorDivI 3 (some .int) rm_Math_floorDivI D tys [.int (iI a), .int (iI b)] [] (.int (iI (a / b))) := by
  refine pMet_ofF (by decide +kernel) (Nat.le_of_ble_eq_true rfl) ?_
  intro p e s m below meth c hx hb hr hown hlk hml hk hK hP hD ls hl
  have hl : lv_has ls 3 [(0, .int (iI a)), (1, .int (iI b))] := hl
  have fb := fl_tb (a := a) gb1
  have fm := fl_mb (a := a) gb1
  have fq := fl_qb (a := a) gb1
  refine lv_iload_n hx hb d_Math_floorDivI_0 rfl (lv_at hl 0 rfl) ?_
  refine lv_iload_n hx hb d_Math_floorDivI_1 rfl (lv_at hl 1 rfl) ?_
  refine ri_idivT hx hb d_Math_floorDivI_2 ?_
  refine lv_istore_n (lv' := [(2, .int (iI (a.tdiv b))), (0, .int (iI a)), (1, .int (iI b))]) hx hb d_Math_floorDivI_3 rfl hl (by decide) rfl (fun ls hl => ?_)
  refine lv_iload_n hx hb d_Math_floorDivI_4 rfl (lv_at hl 1 rfl) ?_
  refine lv_iload_n hx hb d_Math_floorDivI_5 rfl (lv_at hl 2 rfl) ?_
  refine ri_ixor_ge (tgt := 21) hx hb d_Math_floorDivI_6 d_Math_floorDivI_7 (by decide) (fun h6 => ?_) (fun h6 => ?_)
  · refine lv_iload_n hx hb d_Math_floorDivI_21 rfl (lv_at hl 0 rfl) ?_
    exact p_iret hx hb hr hlk d_Math_floorDivI_22 (by first | exact fl_p h6 | exact fl_e gb1 h6 h14)
  · refine lv_iload_n hx hb d_Math_floorDivI_10 rfl (lv_at hl 0 rfl) ?_
    refine lv_iload_n hx hb d_Math_floorDivI_11 rfl (lv_at hl 2 rfl) ?_
    refine ri_imul hx hb d_Math_floorDivI_12 ?_
    refine lv_iload_n hx hb d_Math_floorDivI_13 rfl (lv_at hl 1 rfl) ?_
    refine ri_icmp_eq (tgt := 21) hx hb d_Math_floorDivI_14 (by decide) (fun h14 => ?_) (fun h14 => ?_)
    · refine lv_iload_n hx hb d_Math_floorDivI_21 rfl (lv_at hl 0 rfl) ?_
      exact p_iret hx hb hr hlk d_Math_floorDivI_22 (by first | exact fl_p h6 | exact fl_e gb1 h6 h14)
    · refine lv_iload_n hx hb d_Math_floorDivI_17 rfl (lv_at hl 0 rfl) ?_
      refine lv_iconst (v := iI 1) hx hb d_Math_floorDivI_18 rfl ?_
      refine ri_isub hx hb d_Math_floorDivI_19 ?_
      exact p_iret hx hb hr hlk d_Math_floorDivI_20 (by exact fl_n gb1 h6 h14)
abbrev rm_Math_floorDivJ : Room := { frames := 0, cells := 0, slots := 0, locals := 0 }
set_option maxHeartbeats 4000000 in
set_option maxRecDepth 100000 in
theorem ct_Math_floorDivJ (l : Launch) (D : va_G) (tys : List (ClassId × FieldType)) (a : Int) (b : Int) (ga1 : -4611686018427387904 ≤ a) (ga2 : a ≤ 4611686018427387903) (gb1 : 0 < b) (gb2 : b ≤ 9223372036854775807) : pMet l y_Math_floorDivJ c_Math_floorDivJ 6 (some .long) rm_Math_floorDivJ D tys [.long (lL a), .long (lL b)] [] (.long (lL (a / b))) := by
  refine pMet_ofF (by decide +kernel) (Nat.le_of_ble_eq_true rfl) ?_
  intro p e s m below meth c hx hb hr hown hlk hml hk hK hP hD ls hl
  have hl : lv_has ls 6 [(0, .long (lL a)), (2, .long (lL b))] := hl
  have fb := fl_tb (a := a) gb1
  have fm := fl_mb (a := a) gb1
  have fq := fl_qb (a := a) gb1
  refine lv_lload_n hx hb d_Math_floorDivJ_0 rfl (lv_at hl 0 rfl) ?_
  refine lv_lload_n hx hb d_Math_floorDivJ_1 rfl (lv_at hl 1 rfl) ?_
  refine ri_ldivT hx hb d_Math_floorDivJ_2 ?_
  refine lv_lstore (lv' := [(4, .long (lL (a.tdiv b))), (0, .long (lL a)), (2, .long (lL b))]) hx hb d_Math_floorDivJ_3 hl (by decide) rfl (fun ls hl => ?_)
  refine lv_lload_n hx hb d_Math_floorDivJ_5 rfl (lv_at hl 1 rfl) ?_
  refine lv_lload_n hx hb d_Math_floorDivJ_6 rfl (lv_at hl 2 rfl) ?_
  refine ri_lxor_ge (tgt := 27) hx hb d_Math_floorDivJ_7 d_Math_floorDivJ_8 d_Math_floorDivJ_9 d_Math_floorDivJ_10 (by decide) (fun h7 => ?_) (fun h7 => ?_)
  · refine lv_lload hx hb d_Math_floorDivJ_27 (lv_at hl 0 rfl) ?_
    exact p_lret hx hb hr hlk d_Math_floorDivJ_29 (by first | exact fl_p h7 | exact fl_e gb1 h7 h18)
  · refine lv_lload hx hb d_Math_floorDivJ_13 (lv_at hl 0 rfl) ?_
    refine lv_lload_n hx hb d_Math_floorDivJ_15 rfl (lv_at hl 2 rfl) ?_
    refine ri_lmul hx hb d_Math_floorDivJ_16 ?_
    refine lv_lload_n hx hb d_Math_floorDivJ_17 rfl (lv_at hl 1 rfl) ?_
    refine ri_lcmp_eq (tgt := 27) hx hb d_Math_floorDivJ_18 d_Math_floorDivJ_19 (by decide) (fun h18 => ?_) (fun h18 => ?_)
    · refine lv_lload hx hb d_Math_floorDivJ_27 (lv_at hl 0 rfl) ?_
      exact p_lret hx hb hr hlk d_Math_floorDivJ_29 (by first | exact fl_p h7 | exact fl_e gb1 h7 h18)
    · refine lv_lload hx hb d_Math_floorDivJ_22 (lv_at hl 0 rfl) ?_
      refine lv_lconst (v := lL 1) hx hb d_Math_floorDivJ_24 (by decide) ?_
      refine ri_lsub hx hb d_Math_floorDivJ_25 ?_
      exact p_lret hx hb hr hlk d_Math_floorDivJ_26 (by exact fl_n gb1 h7 h18)
abbrev rm_Math_floorModI : Room := { frames := 0, cells := 0, slots := 0, locals := 0 }
set_option maxHeartbeats 4000000 in
set_option maxRecDepth 100000 in
theorem ct_Math_floorModI (l : Launch) (D : va_G) (tys : List (ClassId × FieldType)) (a : Int) (b : Int) (ga1 : -1073741824 ≤ a) (ga2 : a ≤ 1073741823) (gb1 : 0 < b) (gb2 : b ≤ 2147483647) : pMet l y_Math_floorModI c_Math_floorModI 3 (some .int) rm_Math_floorModI D tys [.int (iI a), .int (iI b)] [] (.int (iI (a % b))) := by
  refine pMet_ofF (by decide +kernel) (Nat.le_of_ble_eq_true rfl) ?_
  intro p e s m below meth c hx hb hr hown hlk hml hk hK hP hD ls hl
  have hl : lv_has ls 3 [(0, .int (iI a)), (1, .int (iI b))] := hl
  have fb := fl_tb (a := a) gb1
  have fm := fl_mb (a := a) gb1
  have fq := fl_qb (a := a) gb1
  refine lv_iload_n hx hb d_Math_floorModI_0 rfl (lv_at hl 0 rfl) ?_
  refine lv_iload_n hx hb d_Math_floorModI_1 rfl (lv_at hl 1 rfl) ?_
  refine ri_iremT hx hb d_Math_floorModI_2 ?_
  refine lv_istore_n (lv' := [(2, .int (iI (a.tmod b))), (0, .int (iI a)), (1, .int (iI b))]) hx hb d_Math_floorModI_3 rfl hl (by decide) rfl (fun ls hl => ?_)
  refine lv_iload_n hx hb d_Math_floorModI_4 rfl (lv_at hl 1 rfl) ?_
  refine lv_iload_n hx hb d_Math_floorModI_5 rfl (lv_at hl 2 rfl) ?_
  refine ri_ixor_ge (tgt := 18) hx hb d_Math_floorModI_6 d_Math_floorModI_7 (by decide) (fun h6 => ?_) (fun h6 => ?_)
  · refine lv_iload_n hx hb d_Math_floorModI_18 rfl (lv_at hl 0 rfl) ?_
    exact p_iret hx hb hr hlk d_Math_floorModI_19 (by first | exact fl_pm h6 | exact fl_me gb1 h6 h11)
  · refine lv_iload_n hx hb d_Math_floorModI_10 rfl (lv_at hl 0 rfl) ?_
    refine ri_if_eq (tgt := 18) hx hb d_Math_floorModI_11 (by decide) (fun h11 => ?_) (fun h11 => ?_)
    · refine lv_iload_n hx hb d_Math_floorModI_18 rfl (lv_at hl 0 rfl) ?_
      exact p_iret hx hb hr hlk d_Math_floorModI_19 (by first | exact fl_pm h6 | exact fl_me gb1 h6 h11)
    · refine lv_iload_n hx hb d_Math_floorModI_14 rfl (lv_at hl 0 rfl) ?_
      refine lv_iload_n hx hb d_Math_floorModI_15 rfl (lv_at hl 2 rfl) ?_
      refine ri_iadd hx hb d_Math_floorModI_16 ?_
      exact p_iret hx hb hr hlk d_Math_floorModI_17 (by exact fl_mn gb1 h6 h11)
abbrev rm_Math_floorModJ : Room := { frames := 0, cells := 0, slots := 0, locals := 0 }
set_option maxHeartbeats 4000000 in
set_option maxRecDepth 100000 in
theorem ct_Math_floorModJ (l : Launch) (D : va_G) (tys : List (ClassId × FieldType)) (a : Int) (b : Int) (ga1 : -4611686018427387904 ≤ a) (ga2 : a ≤ 4611686018427387903) (gb1 : 0 < b) (gb2 : b ≤ 9223372036854775807) : pMet l y_Math_floorModJ c_Math_floorModJ 6 (some .long) rm_Math_floorModJ D tys [.long (lL a), .long (lL b)] [] (.long (lL (a % b))) := by
  refine pMet_ofF (by decide +kernel) (Nat.le_of_ble_eq_true rfl) ?_
  intro p e s m below meth c hx hb hr hown hlk hml hk hK hP hD ls hl
  have hl : lv_has ls 6 [(0, .long (lL a)), (2, .long (lL b))] := hl
  have fb := fl_tb (a := a) gb1
  have fm := fl_mb (a := a) gb1
  have fq := fl_qb (a := a) gb1
  refine lv_lload_n hx hb d_Math_floorModJ_0 rfl (lv_at hl 0 rfl) ?_
  refine lv_lload_n hx hb d_Math_floorModJ_1 rfl (lv_at hl 1 rfl) ?_
  refine ri_lremT hx hb d_Math_floorModJ_2 ?_
  refine lv_lstore (lv' := [(4, .long (lL (a.tmod b))), (0, .long (lL a)), (2, .long (lL b))]) hx hb d_Math_floorModJ_3 hl (by decide) rfl (fun ls hl => ?_)
  refine lv_lload_n hx hb d_Math_floorModJ_5 rfl (lv_at hl 1 rfl) ?_
  refine lv_lload_n hx hb d_Math_floorModJ_6 rfl (lv_at hl 2 rfl) ?_
  refine ri_lxor_ge (tgt := 25) hx hb d_Math_floorModJ_7 d_Math_floorModJ_8 d_Math_floorModJ_9 d_Math_floorModJ_10 (by decide) (fun h7 => ?_) (fun h7 => ?_)
  · refine lv_lload hx hb d_Math_floorModJ_25 (lv_at hl 0 rfl) ?_
    exact p_lret hx hb hr hlk d_Math_floorModJ_27 (by first | exact fl_pm h7 | exact fl_me gb1 h7 h16)
  · refine lv_lload hx hb d_Math_floorModJ_13 (lv_at hl 0 rfl) ?_
    refine lv_lconst (v := lL 0) hx hb d_Math_floorModJ_15 (by decide) ?_
    refine ri_lcmp_eq (tgt := 25) hx hb d_Math_floorModJ_16 d_Math_floorModJ_17 (by decide) (fun h16 => ?_) (fun h16 => ?_)
    · refine lv_lload hx hb d_Math_floorModJ_25 (lv_at hl 0 rfl) ?_
      exact p_lret hx hb hr hlk d_Math_floorModJ_27 (by first | exact fl_pm h7 | exact fl_me gb1 h7 h16)
    · refine lv_lload hx hb d_Math_floorModJ_20 (lv_at hl 0 rfl) ?_
      refine lv_lload_n hx hb d_Math_floorModJ_22 rfl (lv_at hl 2 rfl) ?_
      refine ri_ladd hx hb d_Math_floorModJ_23 ?_
      exact p_lret hx hb hr hlk d_Math_floorModJ_24 (by exact fl_mn gb1 h7 h16)
