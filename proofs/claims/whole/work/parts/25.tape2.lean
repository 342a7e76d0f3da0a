/-! Contracts: Tape (rules, zones, appending), become. By program (wip/whole/m_tape2.py). -/
abbrev rm_Rule_become : Room := { frames := 0, cells := 0, slots := 0, locals := 0 }
set_option maxHeartbeats 4000000 in
set_option maxRecDepth 100000 in
theorem ct_Rule_become (l : Launch) (D : va_G) (tys : List (ClassId × FieldType)) (a : Nat) (o : Nat) (a1 : Int) (a2 : Int) (a3 : Int) (a4 : Int) (b1 : Int) (b2 : Int) (b3 : Int) (b4 : Int)  : mMet l y_Rule_become c_Rule_become 2 none rm_Rule_become D tys [.ref a, .ref o] [(a, .inr (0, [.int (iI a1), .int (iI a2), .int (iI a3), .int (iI a4)])), (o, .inr (0, [.int (iI b1), .int (iI b2), .int (iI b3), .int (iI b4)]))] none [(a, .inr (0, [.int (iI b1), .int (iI b2), .int (iI b3), .int (iI b4)])), (o, .inr (0, [.int (iI b1), .int (iI b2), .int (iI b3), .int (iI b4)]))] := by
  refine mMet_of (by decide) (Nat.le_of_ble_eq_true rfl) ?_
  intro p e s m below meth c hx hb hr hown hlk hml hk hK hP hD hS ls hl
  have hl : lv_has ls 2 [(0, .ref a), (1, .ref o)] := hl
  refine lv_aload_n hx hb d_Rule_become_0 rfl (lv_at hl 0 rfl) ?_
  refine lv_aload_n hx hb d_Rule_become_1 rfl (lv_at hl 1 rfl) ?_
  refine g_get hx hb hk hown hK hP 1 rfl f_Rule_9 rfl d_Rule_become_2 ?_
  refine g_put hx hb hk hown hK hP hD hS 0 rfl f_Rule_9 fT_Rule rfl (rfl) rfl (Nat.le_of_ble_eq_true rfl) d_Rule_become_5 (fun H locs hP hD hS => ?_)
  have hP : va_P D vwCl [(a, .inr (0, [.int (iI b1), .int (iI a2), .int (iI a3), .int (iI a4)])), (o, .inr (0, [.int (iI b1), .int (iI b2), .int (iI b3), .int (iI b4)]))] H := hP
  have hD : va_D (wA [(a, .inr (0, [.int (iI a1), .int (iI a2), .int (iI a3), .int (iI a4)])), (o, .inr (0, [.int (iI b1), .int (iI b2), .int (iI b3), .int (iI b4)]))]) [(a, .inr (0, [.int (iI b1), .int (iI a2), .int (iI a3), .int (iI a4)])), (o, .inr (0, [.int (iI b1), .int (iI b2), .int (iI b3), .int (iI b4)]))] := hD
  refine lv_aload_n hx hb d_Rule_become_8 rfl (lv_at hl 0 rfl) ?_
  refine lv_aload_n hx hb d_Rule_become_9 rfl (lv_at hl 1 rfl) ?_
  refine g_get hx hb hk hown hK hP 1 rfl f_Rule_15 rfl d_Rule_become_10 ?_
  refine g_put hx hb hk hown hK hP hD hS 0 rfl f_Rule_15 fT_Rule rfl (rfl) rfl (Nat.le_of_ble_eq_true rfl) d_Rule_become_13 (fun H locs hP hD hS => ?_)
  have hP : va_P D vwCl [(a, .inr (0, [.int (iI b1), .int (iI b2), .int (iI a3), .int (iI a4)])), (o, .inr (0, [.int (iI b1), .int (iI b2), .int (iI b3), .int (iI b4)]))] H := hP
  have hD : va_D (wA [(a, .inr (0, [.int (iI a1), .int (iI a2), .int (iI a3), .int (iI a4)])), (o, .inr (0, [.int (iI b1), .int (iI b2), .int (iI b3), .int (iI b4)]))]) [(a, .inr (0, [.int (iI b1), .int (iI b2), .int (iI a3), .int (iI a4)])), (o, .inr (0, [.int (iI b1), .int (iI b2), .int (iI b3), .int (iI b4)]))] := hD
  refine lv_aload_n hx hb d_Rule_become_16 rfl (lv_at hl 0 rfl) ?_
  refine lv_aload_n hx hb d_Rule_become_17 rfl (lv_at hl 1 rfl) ?_
  refine g_get hx hb hk hown hK hP 1 rfl f_Rule_18 rfl d_Rule_become_18 ?_
  refine g_put hx hb hk hown hK hP hD hS 0 rfl f_Rule_18 fT_Rule rfl (rfl) rfl (Nat.le_of_ble_eq_true rfl) d_Rule_become_21 (fun H locs hP hD hS => ?_)
  have hP : va_P D vwCl [(a, .inr (0, [.int (iI b1), .int (iI b2), .int (iI b3), .int (iI a4)])), (o, .inr (0, [.int (iI b1), .int (iI b2), .int (iI b3), .int (iI b4)]))] H := hP
  have hD : va_D (wA [(a, .inr (0, [.int (iI a1), .int (iI a2), .int (iI a3), .int (iI a4)])), (o, .inr (0, [.int (iI b1), .int (iI b2), .int (iI b3), .int (iI b4)]))]) [(a, .inr (0, [.int (iI b1), .int (iI b2), .int (iI b3), .int (iI a4)])), (o, .inr (0, [.int (iI b1), .int (iI b2), .int (iI b3), .int (iI b4)]))] := hD
  refine lv_aload_n hx hb d_Rule_become_24 rfl (lv_at hl 0 rfl) ?_
  refine lv_aload_n hx hb d_Rule_become_25 rfl (lv_at hl 1 rfl) ?_
  refine g_get hx hb hk hown hK hP 1 rfl f_Rule_21 rfl d_Rule_become_26 ?_
  refine g_put hx hb hk hown hK hP hD hS 0 rfl f_Rule_21 fT_Rule rfl (rfl) rfl (Nat.le_of_ble_eq_true rfl) d_Rule_become_29 (fun H locs hP hD hS => ?_)
  have hP : va_P D vwCl [(a, .inr (0, [.int (iI b1), .int (iI b2), .int (iI b3), .int (iI b4)])), (o, .inr (0, [.int (iI b1), .int (iI b2), .int (iI b3), .int (iI b4)]))] H := hP
  have hD : va_D (wA [(a, .inr (0, [.int (iI a1), .int (iI a2), .int (iI a3), .int (iI a4)])), (o, .inr (0, [.int (iI b1), .int (iI b2), .int (iI b3), .int (iI b4)]))]) [(a, .inr (0, [.int (iI b1), .int (iI b2), .int (iI b3), .int (iI b4)])), (o, .inr (0, [.int (iI b1), .int (iI b2), .int (iI b3), .int (iI b4)]))] := hD
  exact m_vret hx hb hr hlk hP hS d_Rule_become_32 (by rfl)
abbrev rm_Zone_become : Room := { frames := 1, cells := 0, slots := 0, locals := 21 }
set_option maxHeartbeats 4000000 in
set_option maxRecDepth 100000 in
theorem ct_Zone_become (l : Launch) (D : va_G) (tys : List (ClassId × FieldType)) (za : Nat) (zab : Nat) (zae : Nat) (xoff : Int) (xsv : Int) (xb1 : Int) (xb2 : Int) (xb3 : Int) (xb4 : Int) (xe1 : Int) (xe2 : Int) (xe3 : Int) (xe4 : Int) (zo : Nat) (zob : Nat) (zoe : Nat) (uoff : Int) (usv : Int) (ub1 : Int) (ub2 : Int) (ub3 : Int) (ub4 : Int) (ue1 : Int) (ue2 : Int) (ue3 : Int) (ue4 : Int)  : mMet l y_Zone_become c_Zone_become 2 none rm_Zone_become D tys [.ref za, .ref zo] [(za, .inr (2, [.int (iI xoff), .int (iI xsv), .ref zab, .ref zae])), (zab, .inr (0, [.int (iI xb1), .int (iI xb2), .int (iI xb3), .int (iI xb4)])), (zae, .inr (0, [.int (iI xe1), .int (iI xe2), .int (iI xe3), .int (iI xe4)])), (zo, .inr (2, [.int (iI uoff), .int (iI usv), .ref zob, .ref zoe])), (zob, .inr (0, [.int (iI ub1), .int (iI ub2), .int (iI ub3), .int (iI ub4)])), (zoe, .inr (0, [.int (iI ue1), .int (iI ue2), .int (iI ue3), .int (iI ue4)]))] none [(za, .inr (2, [.int (iI uoff), .int (iI usv), .ref zab, .ref zae])), (zab, .inr (0, [.int (iI ub1), .int (iI ub2), .int (iI ub3), .int (iI ub4)])), (zae, .inr (0, [.int (iI ue1), .int (iI ue2), .int (iI ue3), .int (iI ue4)])), (zo, .inr (2, [.int (iI uoff), .int (iI usv), .ref zob, .ref zoe])), (zob, .inr (0, [.int (iI ub1), .int (iI ub2), .int (iI ub3), .int (iI ub4)])), (zoe, .inr (0, [.int (iI ue1), .int (iI ue2), .int (iI ue3), .int (iI ue4)]))] := by
  refine mMet_of (by decide) (Nat.le_of_ble_eq_true rfl) ?_
  intro p e s m below meth c hx hb hr hown hlk hml hk hK hP hD hS ls hl
  have hl : lv_has ls 2 [(0, .ref za), (1, .ref zo)] := hl
  refine lv_aload_n hx hb d_Zone_become_0 rfl (lv_at hl 0 rfl) ?_
  refine lv_aload_n hx hb d_Zone_become_1 rfl (lv_at hl 1 rfl) ?_
  refine g_get hx hb hk hown hK hP 3 rfl f_Zone_21 rfl d_Zone_become_2 ?_
  refine g_put hx hb hk hown hK hP hD hS 0 rfl f_Zone_21 fT_Zone rfl (rfl) rfl (Nat.le_of_ble_eq_true rfl) d_Zone_become_5 (fun H locs hP hD hS => ?_)
  have hP : va_P D vwCl [(za, .inr (2, [.int (iI uoff), .int (iI xsv), .ref zab, .ref zae])), (zab, .inr (0, [.int (iI xb1), .int (iI xb2), .int (iI xb3), .int (iI xb4)])), (zae, .inr (0, [.int (iI xe1), .int (iI xe2), .int (iI xe3), .int (iI xe4)])), (zo, .inr (2, [.int (iI uoff), .int (iI usv), .ref zob, .ref zoe])), (zob, .inr (0, [.int (iI ub1), .int (iI ub2), .int (iI ub3), .int (iI ub4)])), (zoe, .inr (0, [.int (iI ue1), .int (iI ue2), .int (iI ue3), .int (iI ue4)]))] H := hP
  have hD : va_D (wA [(za, .inr (2, [.int (iI xoff), .int (iI xsv), .ref zab, .ref zae])), (zab, .inr (0, [.int (iI xb1), .int (iI xb2), .int (iI xb3), .int (iI xb4)])), (zae, .inr (0, [.int (iI xe1), .int (iI xe2), .int (iI xe3), .int (iI xe4)])), (zo, .inr (2, [.int (iI uoff), .int (iI usv), .ref zob, .ref zoe])), (zob, .inr (0, [.int (iI ub1), .int (iI ub2), .int (iI ub3), .int (iI ub4)])), (zoe, .inr (0, [.int (iI ue1), .int (iI ue2), .int (iI ue3), .int (iI ue4)]))]) [(za, .inr (2, [.int (iI uoff), .int (iI xsv), .ref zab, .ref zae])), (zab, .inr (0, [.int (iI xb1), .int (iI xb2), .int (iI xb3), .int (iI xb4)])), (zae, .inr (0, [.int (iI xe1), .int (iI xe2), .int (iI xe3), .int (iI xe4)])), (zo, .inr (2, [.int (iI uoff), .int (iI usv), .ref zob, .ref zoe])), (zob, .inr (0, [.int (iI ub1), .int (iI ub2), .int (iI ub3), .int (iI ub4)])), (zoe, .inr (0, [.int (iI ue1), .int (iI ue2), .int (iI ue3), .int (iI ue4)]))] := hD
  refine lv_aload_n hx hb d_Zone_become_8 rfl (lv_at hl 0 rfl) ?_
  refine lv_aload_n hx hb d_Zone_become_9 rfl (lv_at hl 1 rfl) ?_
  refine g_get hx hb hk hown hK hP 3 rfl f_Zone_25 rfl d_Zone_become_10 ?_
  refine g_put hx hb hk hown hK hP hD hS 0 rfl f_Zone_25 fT_Zone rfl (rfl) rfl (Nat.le_of_ble_eq_true rfl) d_Zone_become_13 (fun H locs hP hD hS => ?_)
  have hP : va_P D vwCl [(za, .inr (2, [.int (iI uoff), .int (iI usv), .ref zab, .ref zae])), (zab, .inr (0, [.int (iI xb1), .int (iI xb2), .int (iI xb3), .int (iI xb4)])), (zae, .inr (0, [.int (iI xe1), .int (iI xe2), .int (iI xe3), .int (iI xe4)])), (zo, .inr (2, [.int (iI uoff), .int (iI usv), .ref zob, .ref zoe])), (zob, .inr (0, [.int (iI ub1), .int (iI ub2), .int (iI ub3), .int (iI ub4)])), (zoe, .inr (0, [.int (iI ue1), .int (iI ue2), .int (iI ue3), .int (iI ue4)]))] H := hP
  have hD : va_D (wA [(za, .inr (2, [.int (iI xoff), .int (iI xsv), .ref zab, .ref zae])), (zab, .inr (0, [.int (iI xb1), .int (iI xb2), .int (iI xb3), .int (iI xb4)])), (zae, .inr (0, [.int (iI xe1), .int (iI xe2), .int (iI xe3), .int (iI xe4)])), (zo, .inr (2, [.int (iI uoff), .int (iI usv), .ref zob, .ref zoe])), (zob, .inr (0, [.int (iI ub1), .int (iI ub2), .int (iI ub3), .int (iI ub4)])), (zoe, .inr (0, [.int (iI ue1), .int (iI ue2), .int (iI ue3), .int (iI ue4)]))]) [(za, .inr (2, [.int (iI uoff), .int (iI usv), .ref zab, .ref zae])), (zab, .inr (0, [.int (iI xb1), .int (iI xb2), .int (iI xb3), .int (iI xb4)])), (zae, .inr (0, [.int (iI xe1), .int (iI xe2), .int (iI xe3), .int (iI xe4)])), (zo, .inr (2, [.int (iI uoff), .int (iI usv), .ref zob, .ref zoe])), (zob, .inr (0, [.int (iI ub1), .int (iI ub2), .int (iI ub3), .int (iI ub4)])), (zoe, .inr (0, [.int (iI ue1), .int (iI ue2), .int (iI ue3), .int (iI ue4)]))] := hD
  refine lv_aload_n hx hb d_Zone_become_16 rfl (lv_at hl 0 rfl) ?_
  refine g_get hx hb hk hown hK hP 0 rfl f_Zone_12 rfl d_Zone_become_17 ?_
  refine lv_aload_n hx hb d_Zone_become_20 rfl (lv_at hl 1 rfl) ?_
  refine g_get hx hb hk hown hK hP 3 rfl f_Zone_12 rfl d_Zone_become_21 ?_
  refine m_callV (rest := []) (q0 := 0) hx hb (hml.trans hl.1.symm) hown hk hK k_Zone_28 (ct_Rule_become l D tys zab zob xb1 xb2 xb3 xb4 ub1 ub2 ub3 ub4 ) hP hD hS [1, 4] rfl rfl rfl rfl rfl rfl rfl ⟨rfl, rfl⟩ ⟨by decide, by decide, by decide, by decide⟩ (Nat.le_of_ble_eq_true rfl) d_Zone_become_24 (fun H locs hP hD hS => ?_)
  have hP : va_P D vwCl [(za, .inr (2, [.int (iI uoff), .int (iI usv), .ref zab, .ref zae])), (zab, .inr (0, [.int (iI ub1), .int (iI ub2), .int (iI ub3), .int (iI ub4)])), (zae, .inr (0, [.int (iI xe1), .int (iI xe2), .int (iI xe3), .int (iI xe4)])), (zo, .inr (2, [.int (iI uoff), .int (iI usv), .ref zob, .ref zoe])), (zob, .inr (0, [.int (iI ub1), .int (iI ub2), .int (iI ub3), .int (iI ub4)])), (zoe, .inr (0, [.int (iI ue1), .int (iI ue2), .int (iI ue3), .int (iI ue4)]))] H := hP
  have hD : va_D (wA [(za, .inr (2, [.int (iI xoff), .int (iI xsv), .ref zab, .ref zae])), (zab, .inr (0, [.int (iI xb1), .int (iI xb2), .int (iI xb3), .int (iI xb4)])), (zae, .inr (0, [.int (iI xe1), .int (iI xe2), .int (iI xe3), .int (iI xe4)])), (zo, .inr (2, [.int (iI uoff), .int (iI usv), .ref zob, .ref zoe])), (zob, .inr (0, [.int (iI ub1), .int (iI ub2), .int (iI ub3), .int (iI ub4)])), (zoe, .inr (0, [.int (iI ue1), .int (iI ue2), .int (iI ue3), .int (iI ue4)]))]) [(za, .inr (2, [.int (iI uoff), .int (iI usv), .ref zab, .ref zae])), (zab, .inr (0, [.int (iI ub1), .int (iI ub2), .int (iI ub3), .int (iI ub4)])), (zae, .inr (0, [.int (iI xe1), .int (iI xe2), .int (iI xe3), .int (iI xe4)])), (zo, .inr (2, [.int (iI uoff), .int (iI usv), .ref zob, .ref zoe])), (zob, .inr (0, [.int (iI ub1), .int (iI ub2), .int (iI ub3), .int (iI ub4)])), (zoe, .inr (0, [.int (iI ue1), .int (iI ue2), .int (iI ue3), .int (iI ue4)]))] := hD
  refine lv_aload_n hx hb d_Zone_become_27 rfl (lv_at hl 0 rfl) ?_
  refine g_get hx hb hk hown hK hP 0 rfl f_Zone_18 rfl d_Zone_become_28 ?_
  refine lv_aload_n hx hb d_Zone_become_31 rfl (lv_at hl 1 rfl) ?_
  refine g_get hx hb hk hown hK hP 3 rfl f_Zone_18 rfl d_Zone_become_32 ?_
  refine m_callV (rest := []) (q0 := 0) hx hb (hml.trans hl.1.symm) hown hk hK k_Zone_28 (ct_Rule_become l D tys zae zoe xe1 xe2 xe3 xe4 ue1 ue2 ue3 ue4 ) hP hD hS [2, 5] rfl rfl rfl rfl rfl rfl rfl ⟨rfl, rfl⟩ ⟨by decide, by decide, by decide, by decide⟩ (Nat.le_of_ble_eq_true rfl) d_Zone_become_35 (fun H locs hP hD hS => ?_)
  have hP : va_P D vwCl [(za, .inr (2, [.int (iI uoff), .int (iI usv), .ref zab, .ref zae])), (zab, .inr (0, [.int (iI ub1), .int (iI ub2), .int (iI ub3), .int (iI ub4)])), (zae, .inr (0, [.int (iI ue1), .int (iI ue2), .int (iI ue3), .int (iI ue4)])), (zo, .inr (2, [.int (iI uoff), .int (iI usv), .ref zob, .ref zoe])), (zob, .inr (0, [.int (iI ub1), .int (iI ub2), .int (iI ub3), .int (iI ub4)])), (zoe, .inr (0, [.int (iI ue1), .int (iI ue2), .int (iI ue3), .int (iI ue4)]))] H := hP
  have hD : va_D (wA [(za, .inr (2, [.int (iI xoff), .int (iI xsv), .ref zab, .ref zae])), (zab, .inr (0, [.int (iI xb1), .int (iI xb2), .int (iI xb3), .int (iI xb4)])), (zae, .inr (0, [.int (iI xe1), .int (iI xe2), .int (iI xe3), .int (iI xe4)])), (zo, .inr (2, [.int (iI uoff), .int (iI usv), .ref zob, .ref zoe])), (zob, .inr (0, [.int (iI ub1), .int (iI ub2), .int (iI ub3), .int (iI ub4)])), (zoe, .inr (0, [.int (iI ue1), .int (iI ue2), .int (iI ue3), .int (iI ue4)]))]) [(za, .inr (2, [.int (iI uoff), .int (iI usv), .ref zab, .ref zae])), (zab, .inr (0, [.int (iI ub1), .int (iI ub2), .int (iI ub3), .int (iI ub4)])), (zae, .inr (0, [.int (iI ue1), .int (iI ue2), .int (iI ue3), .int (iI ue4)])), (zo, .inr (2, [.int (iI uoff), .int (iI usv), .ref zob, .ref zoe])), (zob, .inr (0, [.int (iI ub1), .int (iI ub2), .int (iI ub3), .int (iI ub4)])), (zoe, .inr (0, [.int (iI ue1), .int (iI ue2), .int (iI ue3), .int (iI ue4)]))] := hD
  exact m_vret hx hb hr hlk hP hS d_Zone_become_38 (by rfl)
abbrev rm_Tape_readOffset : Room := { frames := 3, cells := 0, slots := 0, locals := 67 }
set_option maxHeartbeats 4000000 in
set_option maxRecDepth 100000 in
theorem ct_Tape_readOffset (l : Launch) (D : va_G) (tys : List (ClassId × FieldType)) (tp : Nat) (ba : Nat) (cB : ClassId) (nn : Nat) (f : Nat → Int32) (hty : tys[0]? = some (cB, .byte)) (gn : nn ≤ 400) : mMet l y_Tape_readOffset c_Tape_readOffset 3 (some .int) rm_Tape_readOffset D tys [.ref tp] [(tp, .inr (1, [.ref ba, .int (iI ((nn : Int))), .int (iI 0), .int (iI 0)])), (ba, .inl (cB, 400, .inl f))] (some (.int (iI (zOff nn f)))) [(tp, .inr (1, [.ref ba, .int (iI ((nn : Int))), .int (iI ((((zS2 nn f).2.1 : Nat) : Int))), .int (iI (bI ((zS2 nn f).2.2)))])), (ba, .inl (cB, 400, .inl f))] := by
  refine mMet_of (by decide) (Nat.le_of_ble_eq_true rfl) ?_
  intro p e s m below meth c hx hb hr hown hlk hml hk hK hP hD hS ls hl
  have hl : lv_has ls 3 [(0, .ref tp)] := hl
  refine lv_aload_n hx hb d_Tape_readOffset_0 rfl (lv_at hl 0 rfl) ?_
  refine p_callV (rest := []) (q0 := 0) hx hb (hml.trans hl.1.symm) hown hk hK k_Tape_56 (ct_Tape_nextByte l D tys tp ba cB nn 0 false f hty (by omega) (by omega)) (w_subP (is := [0, 1]) hP rfl) (w_subD (is := [0, 1]) hD rfl rfl) rfl rfl rfl rfl ⟨rfl, rfl⟩ ⟨by decide, by decide, by decide, by decide⟩ (Nat.le_of_ble_eq_true rfl) d_Tape_readOffset_1 ?_
  have gP := zPk_b nn f 0
  refine lv_bipush (v := iI 45) hx hb d_Tape_readOffset_4 (by decide) ?_
  refine ri_icmp_ne (tgt := 13) hx hb d_Tape_readOffset_6 (by decide) (fun h6 => ?_) (fun h6 => ?_)
  · refine lv_iconst (v := iI 0) hx hb d_Tape_readOffset_13 rfl ?_
    refine lv_istore_n (lv' := [(1, .int (iI 0)), (0, .ref tp)]) hx hb d_Tape_readOffset_14 rfl hl (by decide) rfl (fun ls hl => ?_)
    refine lv_aload_n hx hb d_Tape_readOffset_15 rfl (lv_at hl 1 rfl) ?_
    refine lv_iload_n hx hb d_Tape_readOffset_16 rfl (lv_at hl 0 rfl) ?_
    refine ri_if_eq (tgt := 25) hx hb d_Tape_readOffset_17 (by decide) (fun h17 => ?_) (fun h17 => ?_)
    · refine lv_bipush (v := iI 43) hx hb d_Tape_readOffset_25 (by decide) ?_
      refine m_callV (rest := []) (q0 := 0) hx hb (hml.trans hl.1.symm) hown hk hK k_Tape_59 (ct_Tape_readByte l D tys tp ba cB nn 0 false f 43 hty (by omega) (by omega) (by omega) (by omega)) hP hD hS [0, 1] rfl rfl rfl rfl rfl rfl rfl ⟨rfl, rfl⟩ ⟨by decide, by decide, by decide, by decide⟩ (Nat.le_of_ble_eq_true rfl) d_Tape_readOffset_27 (fun H locs hP hD hS => ?_)
      have hP : va_P D vwCl [(tp, .inr (1, [.ref ba, .int (iI ((nn : Int))), .int (iI ((((zByte nn f 43 (0, false)).1 : Nat) : Int))), .int (iI (bI ((zByte nn f 43 (0, false)).2)))])), (ba, .inl (cB, 400, .inl f))] H := hP
      have hD : va_D (wA [(tp, .inr (1, [.ref ba, .int (iI ((nn : Int))), .int (iI 0), .int (iI 0)])), (ba, .inl (cB, 400, .inl f))]) [(tp, .inr (1, [.ref ba, .int (iI ((nn : Int))), .int (iI ((((zByte nn f 43 (0, false)).1 : Nat) : Int))), .int (iI (bI ((zByte nn f 43 (0, false)).2)))])), (ba, .inl (cB, 400, .inl f))] := hD
      have gz := (zByte_b (n := nn) (f := f) (c := 43) (z := (0, false)) (by decide) (Nat.zero_le _)).2
      refine lv_aload_n hx hb d_Tape_readOffset_30 rfl (lv_at hl 1 rfl) ?_
      refine lv_iconst (v := iI 0) hx hb d_Tape_readOffset_31 rfl ?_
      refine lv_sipush (v := iI 840) hx hb d_Tape_readOffset_32 (by decide) ?_
      refine m_callV (rest := []) (q0 := 0) hx hb (hml.trans hl.1.symm) hown hk hK k_Tape_41 (ct_Tape_readNumber l D tys tp ba cB nn ((zByte nn f 43 (0, false)).1) ((zByte nn f 43 (0, false)).2) f 0 840 hty (by omega) gz (by omega) (by omega) (by omega) (by omega)) hP hD hS [0, 1] rfl rfl rfl rfl rfl rfl rfl ⟨rfl, rfl⟩ ⟨by decide, by decide, by decide, by decide⟩ (Nat.le_of_ble_eq_true rfl) d_Tape_readOffset_35 (fun H locs hP hD hS => ?_)
      have hP : va_P D vwCl [(tp, .inr (1, [.ref ba, .int (iI ((nn : Int))), .int (iI ((((zNum nn f 0 840 (((zByte nn f 43 (0, false)).1), ((zByte nn f 43 (0, false)).2))).2.1 : Nat) : Int))), .int (iI (bI ((zNum nn f 0 840 (((zByte nn f 43 (0, false)).1), ((zByte nn f 43 (0, false)).2))).2.2)))])), (ba, .inl (cB, 400, .inl f))] H := hP
      have hD : va_D (wA [(tp, .inr (1, [.ref ba, .int (iI ((nn : Int))), .int (iI 0), .int (iI 0)])), (ba, .inl (cB, 400, .inl f))]) [(tp, .inr (1, [.ref ba, .int (iI ((nn : Int))), .int (iI ((((zNum nn f 0 840 (((zByte nn f 43 (0, false)).1), ((zByte nn f 43 (0, false)).2))).2.1 : Nat) : Int))), .int (iI (bI ((zNum nn f 0 840 (((zByte nn f 43 (0, false)).1), ((zByte nn f 43 (0, false)).2))).2.2)))])), (ba, .inl (cB, 400, .inl f))] := hD
      refine lv_istore_n (lv' := [(2, .int (iI ((zNum nn f 0 840 (((zByte nn f 43 (0, false)).1), ((zByte nn f 43 (0, false)).2))).1))), (1, .int (iI 0)), (0, .ref tp)]) hx hb d_Tape_readOffset_38 rfl hl (by decide) rfl (fun ls hl => ?_)
      refine lv_iload_n hx hb d_Tape_readOffset_39 rfl (lv_at hl 1 rfl) ?_
      refine ri_if_eq (tgt := 48) hx hb d_Tape_readOffset_40 (by decide) (fun h40 => ?_) (fun h40 => ?_)
      · refine lv_iload_n hx hb d_Tape_readOffset_48 rfl (lv_at hl 0 rfl) ?_
        have hS2 : zS2 nn f = zNum nn f 0 840 (zByte nn f 43 (0, false)) := by unfold zS2; rw [if_neg h6]
        exact m_iret hx hb hr hlk hP hS d_Tape_readOffset_49 (by rw [hS2]) (by unfold zOff; rw [if_neg h6, hS2])
      · exfalso; omega
    · exfalso; omega
  · refine lv_iconst (v := iI 1) hx hb d_Tape_readOffset_9 rfl ?_
    refine lv_goto (tgt := 14) hx hb d_Tape_readOffset_10 (by decide) ?_
    refine lv_istore_n (lv' := [(1, .int (iI 1)), (0, .ref tp)]) hx hb d_Tape_readOffset_14 rfl hl (by decide) rfl (fun ls hl => ?_)
    refine lv_aload_n hx hb d_Tape_readOffset_15 rfl (lv_at hl 1 rfl) ?_
    refine lv_iload_n hx hb d_Tape_readOffset_16 rfl (lv_at hl 0 rfl) ?_
    refine ri_if_eq (tgt := 25) hx hb d_Tape_readOffset_17 (by decide) (fun h17 => ?_) (fun h17 => ?_)
    · exfalso; omega
    · refine lv_bipush (v := iI 45) hx hb d_Tape_readOffset_20 (by decide) ?_
      refine lv_goto (tgt := 27) hx hb d_Tape_readOffset_22 (by decide) ?_
      refine m_callV (rest := []) (q0 := 0) hx hb (hml.trans hl.1.symm) hown hk hK k_Tape_59 (ct_Tape_readByte l D tys tp ba cB nn 0 false f 45 hty (by omega) (by omega) (by omega) (by omega)) hP hD hS [0, 1] rfl rfl rfl rfl rfl rfl rfl ⟨rfl, rfl⟩ ⟨by decide, by decide, by decide, by decide⟩ (Nat.le_of_ble_eq_true rfl) d_Tape_readOffset_27 (fun H locs hP hD hS => ?_)
      have hP : va_P D vwCl [(tp, .inr (1, [.ref ba, .int (iI ((nn : Int))), .int (iI ((((zByte nn f 45 (0, false)).1 : Nat) : Int))), .int (iI (bI ((zByte nn f 45 (0, false)).2)))])), (ba, .inl (cB, 400, .inl f))] H := hP
      have hD : va_D (wA [(tp, .inr (1, [.ref ba, .int (iI ((nn : Int))), .int (iI 0), .int (iI 0)])), (ba, .inl (cB, 400, .inl f))]) [(tp, .inr (1, [.ref ba, .int (iI ((nn : Int))), .int (iI ((((zByte nn f 45 (0, false)).1 : Nat) : Int))), .int (iI (bI ((zByte nn f 45 (0, false)).2)))])), (ba, .inl (cB, 400, .inl f))] := hD
      have gz := (zByte_b (n := nn) (f := f) (c := 45) (z := (0, false)) (by decide) (Nat.zero_le _)).2
      refine lv_aload_n hx hb d_Tape_readOffset_30 rfl (lv_at hl 1 rfl) ?_
      refine lv_iconst (v := iI 0) hx hb d_Tape_readOffset_31 rfl ?_
      refine lv_sipush (v := iI 840) hx hb d_Tape_readOffset_32 (by decide) ?_
      refine m_callV (rest := []) (q0 := 0) hx hb (hml.trans hl.1.symm) hown hk hK k_Tape_41 (ct_Tape_readNumber l D tys tp ba cB nn ((zByte nn f 45 (0, false)).1) ((zByte nn f 45 (0, false)).2) f 0 840 hty (by omega) gz (by omega) (by omega) (by omega) (by omega)) hP hD hS [0, 1] rfl rfl rfl rfl rfl rfl rfl ⟨rfl, rfl⟩ ⟨by decide, by decide, by decide, by decide⟩ (Nat.le_of_ble_eq_true rfl) d_Tape_readOffset_35 (fun H locs hP hD hS => ?_)
      have hP : va_P D vwCl [(tp, .inr (1, [.ref ba, .int (iI ((nn : Int))), .int (iI ((((zNum nn f 0 840 (((zByte nn f 45 (0, false)).1), ((zByte nn f 45 (0, false)).2))).2.1 : Nat) : Int))), .int (iI (bI ((zNum nn f 0 840 (((zByte nn f 45 (0, false)).1), ((zByte nn f 45 (0, false)).2))).2.2)))])), (ba, .inl (cB, 400, .inl f))] H := hP
      have hD : va_D (wA [(tp, .inr (1, [.ref ba, .int (iI ((nn : Int))), .int (iI 0), .int (iI 0)])), (ba, .inl (cB, 400, .inl f))]) [(tp, .inr (1, [.ref ba, .int (iI ((nn : Int))), .int (iI ((((zNum nn f 0 840 (((zByte nn f 45 (0, false)).1), ((zByte nn f 45 (0, false)).2))).2.1 : Nat) : Int))), .int (iI (bI ((zNum nn f 0 840 (((zByte nn f 45 (0, false)).1), ((zByte nn f 45 (0, false)).2))).2.2)))])), (ba, .inl (cB, 400, .inl f))] := hD
      refine lv_istore_n (lv' := [(2, .int (iI ((zNum nn f 0 840 (((zByte nn f 45 (0, false)).1), ((zByte nn f 45 (0, false)).2))).1))), (1, .int (iI 1)), (0, .ref tp)]) hx hb d_Tape_readOffset_38 rfl hl (by decide) rfl (fun ls hl => ?_)
      refine lv_iload_n hx hb d_Tape_readOffset_39 rfl (lv_at hl 1 rfl) ?_
      refine ri_if_eq (tgt := 48) hx hb d_Tape_readOffset_40 (by decide) (fun h40 => ?_) (fun h40 => ?_)
      · exfalso; omega
      · refine lv_iload_n hx hb d_Tape_readOffset_43 rfl (lv_at hl 0 rfl) ?_
        refine ri_ineg hx hb d_Tape_readOffset_44 ?_
        refine lv_goto (tgt := 49) hx hb d_Tape_readOffset_45 (by decide) ?_
        have hS2 : zS2 nn f = zNum nn f 0 840 (zByte nn f 45 (0, false)) := by unfold zS2; rw [if_pos h6]
        exact m_iret hx hb hr hlk hP hS d_Tape_readOffset_49 (by rw [hS2]) (by unfold zOff; rw [if_pos h6, hS2])
abbrev rm_Tape_readRule : Room := { frames := 3, cells := 0, slots := 0, locals := 67 }
set_option maxHeartbeats 4000000 in
set_option maxRecDepth 100000 in
theorem ct_Tape_readRule (l : Launch) (D : va_G) (tys : List (ClassId × FieldType)) (tp : Nat) (ba : Nat) (cB : ClassId) (nn : Nat) (f : Nat → Int32) (z : Nat × Bool) (ru : Nat) (mo : Int) (wk : Int) (wd : Int) (mi : Int) (hty : tys[0]? = some (cB, .byte)) (gn : nn ≤ 400) (gz : z.1 ≤ nn) : mMet l y_Tape_readRule c_Tape_readRule 2 none rm_Tape_readRule D tys [.ref tp, .ref ru] [(tp, .inr (1, [.ref ba, .int (iI ((nn : Int))), .int (iI ((z.1 : Int))), .int (iI (bI z.2))])), (ba, .inl (cB, 400, .inl f)), (ru, .inr (0, [.int (iI mo), .int (iI wk), .int (iI wd), .int (iI mi)]))] none [(tp, .inr (1, [.ref ba, .int (iI ((nn : Int))), .int (iI ((((zRu nn f z).2.1 : Nat) : Int))), .int (iI (bI ((zRu nn f z).2.2)))])), (ba, .inl (cB, 400, .inl f)), (ru, .inr (0, [.int (iI ((zRu nn f z).1.1)), .int (iI ((zRu nn f z).1.2.1)), .int (iI ((zRu nn f z).1.2.2.1)), .int (iI ((zRu nn f z).1.2.2.2))]))] := by
  refine mMet_of (by decide) (Nat.le_of_ble_eq_true rfl) ?_
  intro p e s m below meth c hx hb hr hown hlk hml hk hK hP hD hS ls hl
  have hl : lv_has ls 2 [(0, .ref tp), (1, .ref ru)] := hl
  refine lv_aload_n hx hb d_Tape_readRule_0 rfl (lv_at hl 0 rfl) ?_
  refine lv_bipush (v := iI 77) hx hb d_Tape_readRule_1 (by decide) ?_
  refine m_callV (rest := []) (q0 := 0) hx hb (hml.trans hl.1.symm) hown hk hK k_Tape_59 (ct_Tape_readByte l D tys tp ba cB nn z.1 z.2 f 77 hty (by omega) gz (by omega) (by omega)) hP hD hS [0, 1] rfl rfl rfl rfl rfl rfl rfl ⟨rfl, rfl⟩ ⟨by decide, by decide, by decide, by decide⟩ (Nat.le_of_ble_eq_true rfl) d_Tape_readRule_3 (fun H locs hP hD hS => ?_)
  have hP : va_P D vwCl [(tp, .inr (1, [.ref ba, .int (iI ((nn : Int))), .int (iI ((((zByte nn f 77 (z.1, z.2)).1 : Nat) : Int))), .int (iI (bI ((zByte nn f 77 (z.1, z.2)).2)))])), (ba, .inl (cB, 400, .inl f)), (ru, .inr (0, [.int (iI mo), .int (iI wk), .int (iI wd), .int (iI mi)]))] H := hP
  have hD : va_D (wA [(tp, .inr (1, [.ref ba, .int (iI ((nn : Int))), .int (iI ((z.1 : Int))), .int (iI (bI z.2))])), (ba, .inl (cB, 400, .inl f)), (ru, .inr (0, [.int (iI mo), .int (iI wk), .int (iI wd), .int (iI mi)]))]) [(tp, .inr (1, [.ref ba, .int (iI ((nn : Int))), .int (iI ((((zByte nn f 77 (z.1, z.2)).1 : Nat) : Int))), .int (iI (bI ((zByte nn f 77 (z.1, z.2)).2)))])), (ba, .inl (cB, 400, .inl f)), (ru, .inr (0, [.int (iI mo), .int (iI wk), .int (iI wd), .int (iI mi)]))] := hD
  have hP : va_P D vwCl [(tp, .inr (1, [.ref ba, .int (iI ((nn : Int))), .int (iI ((((zU1 nn f z).1 : Nat) : Int))), .int (iI (bI ((zU1 nn f z).2)))])), (ba, .inl (cB, 400, .inl f)), (ru, .inr (0, [.int (iI mo), .int (iI wk), .int (iI wd), .int (iI mi)]))] H := hP
  have hD : va_D (wA [(tp, .inr (1, [.ref ba, .int (iI ((nn : Int))), .int (iI ((z.1 : Int))), .int (iI (bI z.2))])), (ba, .inl (cB, 400, .inl f)), (ru, .inr (0, [.int (iI mo), .int (iI wk), .int (iI wd), .int (iI mi)]))]) [(tp, .inr (1, [.ref ba, .int (iI ((nn : Int))), .int (iI ((((zU1 nn f z).1 : Nat) : Int))), .int (iI (bI ((zU1 nn f z).2)))])), (ba, .inl (cB, 400, .inl f)), (ru, .inr (0, [.int (iI mo), .int (iI wk), .int (iI wd), .int (iI mi)]))] := hD
  have gu1 := zU1_b (f := f) gz
  refine lv_aload_n hx hb d_Tape_readRule_6 rfl (lv_at hl 1 rfl) ?_
  refine lv_aload_n hx hb d_Tape_readRule_7 rfl (lv_at hl 0 rfl) ?_
  refine lv_iconst (v := iI 1) hx hb d_Tape_readRule_8 rfl ?_
  refine lv_bipush (v := iI 12) hx hb d_Tape_readRule_9 (by decide) ?_
  refine m_callV (rest := [.ref ru]) (q0 := 0) hx hb (hml.trans hl.1.symm) hown hk hK k_Tape_41 (ct_Tape_readNumber l D tys tp ba cB nn ((zU1 nn f z).1) ((zU1 nn f z).2) f 1 12 hty (by omega) gu1 (by omega) (by omega) (by omega) (by omega)) hP hD hS [0, 1] rfl rfl rfl rfl rfl rfl rfl ⟨rfl, rfl⟩ ⟨by decide, by decide, by decide, by decide⟩ (Nat.le_of_ble_eq_true rfl) d_Tape_readRule_11 (fun H locs hP hD hS => ?_)
  have hP : va_P D vwCl [(tp, .inr (1, [.ref ba, .int (iI ((nn : Int))), .int (iI ((((zNum nn f 1 12 (((zU1 nn f z).1), ((zU1 nn f z).2))).2.1 : Nat) : Int))), .int (iI (bI ((zNum nn f 1 12 (((zU1 nn f z).1), ((zU1 nn f z).2))).2.2)))])), (ba, .inl (cB, 400, .inl f)), (ru, .inr (0, [.int (iI mo), .int (iI wk), .int (iI wd), .int (iI mi)]))] H := hP
  have hD : va_D (wA [(tp, .inr (1, [.ref ba, .int (iI ((nn : Int))), .int (iI ((z.1 : Int))), .int (iI (bI z.2))])), (ba, .inl (cB, 400, .inl f)), (ru, .inr (0, [.int (iI mo), .int (iI wk), .int (iI wd), .int (iI mi)]))]) [(tp, .inr (1, [.ref ba, .int (iI ((nn : Int))), .int (iI ((((zNum nn f 1 12 (((zU1 nn f z).1), ((zU1 nn f z).2))).2.1 : Nat) : Int))), .int (iI (bI ((zNum nn f 1 12 (((zU1 nn f z).1), ((zU1 nn f z).2))).2.2)))])), (ba, .inl (cB, 400, .inl f)), (ru, .inr (0, [.int (iI mo), .int (iI wk), .int (iI wd), .int (iI mi)]))] := hD
  have hP : va_P D vwCl [(tp, .inr (1, [.ref ba, .int (iI ((nn : Int))), .int (iI ((((zU2 nn f z).2.1 : Nat) : Int))), .int (iI (bI ((zU2 nn f z).2.2)))])), (ba, .inl (cB, 400, .inl f)), (ru, .inr (0, [.int (iI mo), .int (iI wk), .int (iI wd), .int (iI mi)]))] H := hP
  have hD : va_D (wA [(tp, .inr (1, [.ref ba, .int (iI ((nn : Int))), .int (iI ((z.1 : Int))), .int (iI (bI z.2))])), (ba, .inl (cB, 400, .inl f)), (ru, .inr (0, [.int (iI mo), .int (iI wk), .int (iI wd), .int (iI mi)]))]) [(tp, .inr (1, [.ref ba, .int (iI ((nn : Int))), .int (iI ((((zU2 nn f z).2.1 : Nat) : Int))), .int (iI (bI ((zU2 nn f z).2.2)))])), (ba, .inl (cB, 400, .inl f)), (ru, .inr (0, [.int (iI mo), .int (iI wk), .int (iI wd), .int (iI mi)]))] := hD
  have gu2 := zU2_b (f := f) gz
  refine g_putN hx hb hk hown hK hP hD hS 2 rfl f_Tape_63 fT_Rule rfl (rfl) rfl (Nat.le_of_ble_eq_true rfl) d_Tape_readRule_14 (fun H locs hP hD hS => ?_)
  have hP : va_P D vwCl [(tp, .inr (1, [.ref ba, .int (iI ((nn : Int))), .int (iI ((((zU2 nn f z).2.1 : Nat) : Int))), .int (iI (bI ((zU2 nn f z).2.2)))])), (ba, .inl (cB, 400, .inl f)), (ru, .inr (0, [.int (iI ((zU2 nn f z).1)), .int (iI wk), .int (iI wd), .int (iI mi)]))] H := hP
  have hD : va_D (wA [(tp, .inr (1, [.ref ba, .int (iI ((nn : Int))), .int (iI ((z.1 : Int))), .int (iI (bI z.2))])), (ba, .inl (cB, 400, .inl f)), (ru, .inr (0, [.int (iI mo), .int (iI wk), .int (iI wd), .int (iI mi)]))]) [(tp, .inr (1, [.ref ba, .int (iI ((nn : Int))), .int (iI ((((zU2 nn f z).2.1 : Nat) : Int))), .int (iI (bI ((zU2 nn f z).2.2)))])), (ba, .inl (cB, 400, .inl f)), (ru, .inr (0, [.int (iI ((zU2 nn f z).1)), .int (iI wk), .int (iI wd), .int (iI mi)]))] := hD
  refine lv_aload_n hx hb d_Tape_readRule_17 rfl (lv_at hl 0 rfl) ?_
  refine lv_bipush (v := iI 46) hx hb d_Tape_readRule_18 (by decide) ?_
  refine m_callV (rest := []) (q0 := 0) hx hb (hml.trans hl.1.symm) hown hk hK k_Tape_59 (ct_Tape_readByte l D tys tp ba cB nn ((zU2 nn f z).2.1) ((zU2 nn f z).2.2) f 46 hty (by omega) gu2 (by omega) (by omega)) hP hD hS [0, 1] rfl rfl rfl rfl rfl rfl rfl ⟨rfl, rfl⟩ ⟨by decide, by decide, by decide, by decide⟩ (Nat.le_of_ble_eq_true rfl) d_Tape_readRule_20 (fun H locs hP hD hS => ?_)
  have hP : va_P D vwCl [(tp, .inr (1, [.ref ba, .int (iI ((nn : Int))), .int (iI ((((zByte nn f 46 (((zU2 nn f z).2.1), ((zU2 nn f z).2.2))).1 : Nat) : Int))), .int (iI (bI ((zByte nn f 46 (((zU2 nn f z).2.1), ((zU2 nn f z).2.2))).2)))])), (ba, .inl (cB, 400, .inl f)), (ru, .inr (0, [.int (iI ((zU2 nn f z).1)), .int (iI wk), .int (iI wd), .int (iI mi)]))] H := hP
  have hD : va_D (wA [(tp, .inr (1, [.ref ba, .int (iI ((nn : Int))), .int (iI ((z.1 : Int))), .int (iI (bI z.2))])), (ba, .inl (cB, 400, .inl f)), (ru, .inr (0, [.int (iI mo), .int (iI wk), .int (iI wd), .int (iI mi)]))]) [(tp, .inr (1, [.ref ba, .int (iI ((nn : Int))), .int (iI ((((zByte nn f 46 (((zU2 nn f z).2.1), ((zU2 nn f z).2.2))).1 : Nat) : Int))), .int (iI (bI ((zByte nn f 46 (((zU2 nn f z).2.1), ((zU2 nn f z).2.2))).2)))])), (ba, .inl (cB, 400, .inl f)), (ru, .inr (0, [.int (iI ((zU2 nn f z).1)), .int (iI wk), .int (iI wd), .int (iI mi)]))] := hD
  have hP : va_P D vwCl [(tp, .inr (1, [.ref ba, .int (iI ((nn : Int))), .int (iI ((((zU3 nn f z).1 : Nat) : Int))), .int (iI (bI ((zU3 nn f z).2)))])), (ba, .inl (cB, 400, .inl f)), (ru, .inr (0, [.int (iI ((zU2 nn f z).1)), .int (iI wk), .int (iI wd), .int (iI mi)]))] H := hP
  have hD : va_D (wA [(tp, .inr (1, [.ref ba, .int (iI ((nn : Int))), .int (iI ((z.1 : Int))), .int (iI (bI z.2))])), (ba, .inl (cB, 400, .inl f)), (ru, .inr (0, [.int (iI mo), .int (iI wk), .int (iI wd), .int (iI mi)]))]) [(tp, .inr (1, [.ref ba, .int (iI ((nn : Int))), .int (iI ((((zU3 nn f z).1 : Nat) : Int))), .int (iI (bI ((zU3 nn f z).2)))])), (ba, .inl (cB, 400, .inl f)), (ru, .inr (0, [.int (iI ((zU2 nn f z).1)), .int (iI wk), .int (iI wd), .int (iI mi)]))] := hD
  have gu3 := zU3_b (f := f) gz
  refine lv_aload_n hx hb d_Tape_readRule_23 rfl (lv_at hl 1 rfl) ?_
  refine lv_aload_n hx hb d_Tape_readRule_24 rfl (lv_at hl 0 rfl) ?_
  refine lv_iconst (v := iI 1) hx hb d_Tape_readRule_25 rfl ?_
  refine lv_iconst (v := iI 5) hx hb d_Tape_readRule_26 rfl ?_
  refine m_callV (rest := [.ref ru]) (q0 := 0) hx hb (hml.trans hl.1.symm) hown hk hK k_Tape_41 (ct_Tape_readNumber l D tys tp ba cB nn ((zU3 nn f z).1) ((zU3 nn f z).2) f 1 5 hty (by omega) gu3 (by omega) (by omega) (by omega) (by omega)) hP hD hS [0, 1] rfl rfl rfl rfl rfl rfl rfl ⟨rfl, rfl⟩ ⟨by decide, by decide, by decide, by decide⟩ (Nat.le_of_ble_eq_true rfl) d_Tape_readRule_27 (fun H locs hP hD hS => ?_)
  have hP : va_P D vwCl [(tp, .inr (1, [.ref ba, .int (iI ((nn : Int))), .int (iI ((((zNum nn f 1 5 (((zU3 nn f z).1), ((zU3 nn f z).2))).2.1 : Nat) : Int))), .int (iI (bI ((zNum nn f 1 5 (((zU3 nn f z).1), ((zU3 nn f z).2))).2.2)))])), (ba, .inl (cB, 400, .inl f)), (ru, .inr (0, [.int (iI ((zU2 nn f z).1)), .int (iI wk), .int (iI wd), .int (iI mi)]))] H := hP
  have hD : va_D (wA [(tp, .inr (1, [.ref ba, .int (iI ((nn : Int))), .int (iI ((z.1 : Int))), .int (iI (bI z.2))])), (ba, .inl (cB, 400, .inl f)), (ru, .inr (0, [.int (iI mo), .int (iI wk), .int (iI wd), .int (iI mi)]))]) [(tp, .inr (1, [.ref ba, .int (iI ((nn : Int))), .int (iI ((((zNum nn f 1 5 (((zU3 nn f z).1), ((zU3 nn f z).2))).2.1 : Nat) : Int))), .int (iI (bI ((zNum nn f 1 5 (((zU3 nn f z).1), ((zU3 nn f z).2))).2.2)))])), (ba, .inl (cB, 400, .inl f)), (ru, .inr (0, [.int (iI ((zU2 nn f z).1)), .int (iI wk), .int (iI wd), .int (iI mi)]))] := hD
  have hP : va_P D vwCl [(tp, .inr (1, [.ref ba, .int (iI ((nn : Int))), .int (iI ((((zU4 nn f z).2.1 : Nat) : Int))), .int (iI (bI ((zU4 nn f z).2.2)))])), (ba, .inl (cB, 400, .inl f)), (ru, .inr (0, [.int (iI ((zU2 nn f z).1)), .int (iI wk), .int (iI wd), .int (iI mi)]))] H := hP
  have hD : va_D (wA [(tp, .inr (1, [.ref ba, .int (iI ((nn : Int))), .int (iI ((z.1 : Int))), .int (iI (bI z.2))])), (ba, .inl (cB, 400, .inl f)), (ru, .inr (0, [.int (iI mo), .int (iI wk), .int (iI wd), .int (iI mi)]))]) [(tp, .inr (1, [.ref ba, .int (iI ((nn : Int))), .int (iI ((((zU4 nn f z).2.1 : Nat) : Int))), .int (iI (bI ((zU4 nn f z).2.2)))])), (ba, .inl (cB, 400, .inl f)), (ru, .inr (0, [.int (iI ((zU2 nn f z).1)), .int (iI wk), .int (iI wd), .int (iI mi)]))] := hD
  have gu4 := zU4_b (f := f) gz
  refine g_putN hx hb hk hown hK hP hD hS 2 rfl f_Tape_68 fT_Rule rfl (rfl) rfl (Nat.le_of_ble_eq_true rfl) d_Tape_readRule_30 (fun H locs hP hD hS => ?_)
  have hP : va_P D vwCl [(tp, .inr (1, [.ref ba, .int (iI ((nn : Int))), .int (iI ((((zU4 nn f z).2.1 : Nat) : Int))), .int (iI (bI ((zU4 nn f z).2.2)))])), (ba, .inl (cB, 400, .inl f)), (ru, .inr (0, [.int (iI ((zU2 nn f z).1)), .int (iI ((zU4 nn f z).1)), .int (iI wd), .int (iI mi)]))] H := hP
  have hD : va_D (wA [(tp, .inr (1, [.ref ba, .int (iI ((nn : Int))), .int (iI ((z.1 : Int))), .int (iI (bI z.2))])), (ba, .inl (cB, 400, .inl f)), (ru, .inr (0, [.int (iI mo), .int (iI wk), .int (iI wd), .int (iI mi)]))]) [(tp, .inr (1, [.ref ba, .int (iI ((nn : Int))), .int (iI ((((zU4 nn f z).2.1 : Nat) : Int))), .int (iI (bI ((zU4 nn f z).2.2)))])), (ba, .inl (cB, 400, .inl f)), (ru, .inr (0, [.int (iI ((zU2 nn f z).1)), .int (iI ((zU4 nn f z).1)), .int (iI wd), .int (iI mi)]))] := hD
  refine lv_aload_n hx hb d_Tape_readRule_33 rfl (lv_at hl 0 rfl) ?_
  refine lv_bipush (v := iI 46) hx hb d_Tape_readRule_34 (by decide) ?_
  refine m_callV (rest := []) (q0 := 0) hx hb (hml.trans hl.1.symm) hown hk hK k_Tape_59 (ct_Tape_readByte l D tys tp ba cB nn ((zU4 nn f z).2.1) ((zU4 nn f z).2.2) f 46 hty (by omega) gu4 (by omega) (by omega)) hP hD hS [0, 1] rfl rfl rfl rfl rfl rfl rfl ⟨rfl, rfl⟩ ⟨by decide, by decide, by decide, by decide⟩ (Nat.le_of_ble_eq_true rfl) d_Tape_readRule_36 (fun H locs hP hD hS => ?_)
  have hP : va_P D vwCl [(tp, .inr (1, [.ref ba, .int (iI ((nn : Int))), .int (iI ((((zByte nn f 46 (((zU4 nn f z).2.1), ((zU4 nn f z).2.2))).1 : Nat) : Int))), .int (iI (bI ((zByte nn f 46 (((zU4 nn f z).2.1), ((zU4 nn f z).2.2))).2)))])), (ba, .inl (cB, 400, .inl f)), (ru, .inr (0, [.int (iI ((zU2 nn f z).1)), .int (iI ((zU4 nn f z).1)), .int (iI wd), .int (iI mi)]))] H := hP
  have hD : va_D (wA [(tp, .inr (1, [.ref ba, .int (iI ((nn : Int))), .int (iI ((z.1 : Int))), .int (iI (bI z.2))])), (ba, .inl (cB, 400, .inl f)), (ru, .inr (0, [.int (iI mo), .int (iI wk), .int (iI wd), .int (iI mi)]))]) [(tp, .inr (1, [.ref ba, .int (iI ((nn : Int))), .int (iI ((((zByte nn f 46 (((zU4 nn f z).2.1), ((zU4 nn f z).2.2))).1 : Nat) : Int))), .int (iI (bI ((zByte nn f 46 (((zU4 nn f z).2.1), ((zU4 nn f z).2.2))).2)))])), (ba, .inl (cB, 400, .inl f)), (ru, .inr (0, [.int (iI ((zU2 nn f z).1)), .int (iI ((zU4 nn f z).1)), .int (iI wd), .int (iI mi)]))] := hD
  have hP : va_P D vwCl [(tp, .inr (1, [.ref ba, .int (iI ((nn : Int))), .int (iI ((((zU5 nn f z).1 : Nat) : Int))), .int (iI (bI ((zU5 nn f z).2)))])), (ba, .inl (cB, 400, .inl f)), (ru, .inr (0, [.int (iI ((zU2 nn f z).1)), .int (iI ((zU4 nn f z).1)), .int (iI wd), .int (iI mi)]))] H := hP
  have hD : va_D (wA [(tp, .inr (1, [.ref ba, .int (iI ((nn : Int))), .int (iI ((z.1 : Int))), .int (iI (bI z.2))])), (ba, .inl (cB, 400, .inl f)), (ru, .inr (0, [.int (iI mo), .int (iI wk), .int (iI wd), .int (iI mi)]))]) [(tp, .inr (1, [.ref ba, .int (iI ((nn : Int))), .int (iI ((((zU5 nn f z).1 : Nat) : Int))), .int (iI (bI ((zU5 nn f z).2)))])), (ba, .inl (cB, 400, .inl f)), (ru, .inr (0, [.int (iI ((zU2 nn f z).1)), .int (iI ((zU4 nn f z).1)), .int (iI wd), .int (iI mi)]))] := hD
  have gu5 := zU5_b (f := f) gz
  refine lv_aload_n hx hb d_Tape_readRule_39 rfl (lv_at hl 1 rfl) ?_
  refine lv_aload_n hx hb d_Tape_readRule_40 rfl (lv_at hl 0 rfl) ?_
  refine lv_iconst (v := iI 0) hx hb d_Tape_readRule_41 rfl ?_
  refine lv_bipush (v := iI 6) hx hb d_Tape_readRule_42 (by decide) ?_
  refine m_callV (rest := [.ref ru]) (q0 := 0) hx hb (hml.trans hl.1.symm) hown hk hK k_Tape_41 (ct_Tape_readNumber l D tys tp ba cB nn ((zU5 nn f z).1) ((zU5 nn f z).2) f 0 6 hty (by omega) gu5 (by omega) (by omega) (by omega) (by omega)) hP hD hS [0, 1] rfl rfl rfl rfl rfl rfl rfl ⟨rfl, rfl⟩ ⟨by decide, by decide, by decide, by decide⟩ (Nat.le_of_ble_eq_true rfl) d_Tape_readRule_44 (fun H locs hP hD hS => ?_)
  have hP : va_P D vwCl [(tp, .inr (1, [.ref ba, .int (iI ((nn : Int))), .int (iI ((((zNum nn f 0 6 (((zU5 nn f z).1), ((zU5 nn f z).2))).2.1 : Nat) : Int))), .int (iI (bI ((zNum nn f 0 6 (((zU5 nn f z).1), ((zU5 nn f z).2))).2.2)))])), (ba, .inl (cB, 400, .inl f)), (ru, .inr (0, [.int (iI ((zU2 nn f z).1)), .int (iI ((zU4 nn f z).1)), .int (iI wd), .int (iI mi)]))] H := hP
  have hD : va_D (wA [(tp, .inr (1, [.ref ba, .int (iI ((nn : Int))), .int (iI ((z.1 : Int))), .int (iI (bI z.2))])), (ba, .inl (cB, 400, .inl f)), (ru, .inr (0, [.int (iI mo), .int (iI wk), .int (iI wd), .int (iI mi)]))]) [(tp, .inr (1, [.ref ba, .int (iI ((nn : Int))), .int (iI ((((zNum nn f 0 6 (((zU5 nn f z).1), ((zU5 nn f z).2))).2.1 : Nat) : Int))), .int (iI (bI ((zNum nn f 0 6 (((zU5 nn f z).1), ((zU5 nn f z).2))).2.2)))])), (ba, .inl (cB, 400, .inl f)), (ru, .inr (0, [.int (iI ((zU2 nn f z).1)), .int (iI ((zU4 nn f z).1)), .int (iI wd), .int (iI mi)]))] := hD
  have hP : va_P D vwCl [(tp, .inr (1, [.ref ba, .int (iI ((nn : Int))), .int (iI ((((zU6 nn f z).2.1 : Nat) : Int))), .int (iI (bI ((zU6 nn f z).2.2)))])), (ba, .inl (cB, 400, .inl f)), (ru, .inr (0, [.int (iI ((zU2 nn f z).1)), .int (iI ((zU4 nn f z).1)), .int (iI wd), .int (iI mi)]))] H := hP
  have hD : va_D (wA [(tp, .inr (1, [.ref ba, .int (iI ((nn : Int))), .int (iI ((z.1 : Int))), .int (iI (bI z.2))])), (ba, .inl (cB, 400, .inl f)), (ru, .inr (0, [.int (iI mo), .int (iI wk), .int (iI wd), .int (iI mi)]))]) [(tp, .inr (1, [.ref ba, .int (iI ((nn : Int))), .int (iI ((((zU6 nn f z).2.1 : Nat) : Int))), .int (iI (bI ((zU6 nn f z).2.2)))])), (ba, .inl (cB, 400, .inl f)), (ru, .inr (0, [.int (iI ((zU2 nn f z).1)), .int (iI ((zU4 nn f z).1)), .int (iI wd), .int (iI mi)]))] := hD
  have gu6 := zU6_b (f := f) gz
  refine g_putN hx hb hk hown hK hP hD hS 2 rfl f_Tape_71 fT_Rule rfl (rfl) rfl (Nat.le_of_ble_eq_true rfl) d_Tape_readRule_47 (fun H locs hP hD hS => ?_)
  have hP : va_P D vwCl [(tp, .inr (1, [.ref ba, .int (iI ((nn : Int))), .int (iI ((((zU6 nn f z).2.1 : Nat) : Int))), .int (iI (bI ((zU6 nn f z).2.2)))])), (ba, .inl (cB, 400, .inl f)), (ru, .inr (0, [.int (iI ((zU2 nn f z).1)), .int (iI ((zU4 nn f z).1)), .int (iI ((zU6 nn f z).1)), .int (iI mi)]))] H := hP
  have hD : va_D (wA [(tp, .inr (1, [.ref ba, .int (iI ((nn : Int))), .int (iI ((z.1 : Int))), .int (iI (bI z.2))])), (ba, .inl (cB, 400, .inl f)), (ru, .inr (0, [.int (iI mo), .int (iI wk), .int (iI wd), .int (iI mi)]))]) [(tp, .inr (1, [.ref ba, .int (iI ((nn : Int))), .int (iI ((((zU6 nn f z).2.1 : Nat) : Int))), .int (iI (bI ((zU6 nn f z).2.2)))])), (ba, .inl (cB, 400, .inl f)), (ru, .inr (0, [.int (iI ((zU2 nn f z).1)), .int (iI ((zU4 nn f z).1)), .int (iI ((zU6 nn f z).1)), .int (iI mi)]))] := hD
  refine lv_aload_n hx hb d_Tape_readRule_50 rfl (lv_at hl 0 rfl) ?_
  refine lv_bipush (v := iI 47) hx hb d_Tape_readRule_51 (by decide) ?_
  refine m_callV (rest := []) (q0 := 0) hx hb (hml.trans hl.1.symm) hown hk hK k_Tape_59 (ct_Tape_readByte l D tys tp ba cB nn ((zU6 nn f z).2.1) ((zU6 nn f z).2.2) f 47 hty (by omega) gu6 (by omega) (by omega)) hP hD hS [0, 1] rfl rfl rfl rfl rfl rfl rfl ⟨rfl, rfl⟩ ⟨by decide, by decide, by decide, by decide⟩ (Nat.le_of_ble_eq_true rfl) d_Tape_readRule_53 (fun H locs hP hD hS => ?_)
  have hP : va_P D vwCl [(tp, .inr (1, [.ref ba, .int (iI ((nn : Int))), .int (iI ((((zByte nn f 47 (((zU6 nn f z).2.1), ((zU6 nn f z).2.2))).1 : Nat) : Int))), .int (iI (bI ((zByte nn f 47 (((zU6 nn f z).2.1), ((zU6 nn f z).2.2))).2)))])), (ba, .inl (cB, 400, .inl f)), (ru, .inr (0, [.int (iI ((zU2 nn f z).1)), .int (iI ((zU4 nn f z).1)), .int (iI ((zU6 nn f z).1)), .int (iI mi)]))] H := hP
  have hD : va_D (wA [(tp, .inr (1, [.ref ba, .int (iI ((nn : Int))), .int (iI ((z.1 : Int))), .int (iI (bI z.2))])), (ba, .inl (cB, 400, .inl f)), (ru, .inr (0, [.int (iI mo), .int (iI wk), .int (iI wd), .int (iI mi)]))]) [(tp, .inr (1, [.ref ba, .int (iI ((nn : Int))), .int (iI ((((zByte nn f 47 (((zU6 nn f z).2.1), ((zU6 nn f z).2.2))).1 : Nat) : Int))), .int (iI (bI ((zByte nn f 47 (((zU6 nn f z).2.1), ((zU6 nn f z).2.2))).2)))])), (ba, .inl (cB, 400, .inl f)), (ru, .inr (0, [.int (iI ((zU2 nn f z).1)), .int (iI ((zU4 nn f z).1)), .int (iI ((zU6 nn f z).1)), .int (iI mi)]))] := hD
  have hP : va_P D vwCl [(tp, .inr (1, [.ref ba, .int (iI ((nn : Int))), .int (iI ((((zU7 nn f z).1 : Nat) : Int))), .int (iI (bI ((zU7 nn f z).2)))])), (ba, .inl (cB, 400, .inl f)), (ru, .inr (0, [.int (iI ((zU2 nn f z).1)), .int (iI ((zU4 nn f z).1)), .int (iI ((zU6 nn f z).1)), .int (iI mi)]))] H := hP
  have hD : va_D (wA [(tp, .inr (1, [.ref ba, .int (iI ((nn : Int))), .int (iI ((z.1 : Int))), .int (iI (bI z.2))])), (ba, .inl (cB, 400, .inl f)), (ru, .inr (0, [.int (iI mo), .int (iI wk), .int (iI wd), .int (iI mi)]))]) [(tp, .inr (1, [.ref ba, .int (iI ((nn : Int))), .int (iI ((((zU7 nn f z).1 : Nat) : Int))), .int (iI (bI ((zU7 nn f z).2)))])), (ba, .inl (cB, 400, .inl f)), (ru, .inr (0, [.int (iI ((zU2 nn f z).1)), .int (iI ((zU4 nn f z).1)), .int (iI ((zU6 nn f z).1)), .int (iI mi)]))] := hD
  have gu7 := zU7_b (f := f) gz
  refine lv_aload_n hx hb d_Tape_readRule_56 rfl (lv_at hl 1 rfl) ?_
  refine lv_aload_n hx hb d_Tape_readRule_57 rfl (lv_at hl 0 rfl) ?_
  refine lv_iconst (v := iI 0) hx hb d_Tape_readRule_58 rfl ?_
  refine lv_sipush (v := iI 1439) hx hb d_Tape_readRule_59 (by decide) ?_
  refine m_callV (rest := [.ref ru]) (q0 := 0) hx hb (hml.trans hl.1.symm) hown hk hK k_Tape_41 (ct_Tape_readNumber l D tys tp ba cB nn ((zU7 nn f z).1) ((zU7 nn f z).2) f 0 1439 hty (by omega) gu7 (by omega) (by omega) (by omega) (by omega)) hP hD hS [0, 1] rfl rfl rfl rfl rfl rfl rfl ⟨rfl, rfl⟩ ⟨by decide, by decide, by decide, by decide⟩ (Nat.le_of_ble_eq_true rfl) d_Tape_readRule_62 (fun H locs hP hD hS => ?_)
  have hP : va_P D vwCl [(tp, .inr (1, [.ref ba, .int (iI ((nn : Int))), .int (iI ((((zNum nn f 0 1439 (((zU7 nn f z).1), ((zU7 nn f z).2))).2.1 : Nat) : Int))), .int (iI (bI ((zNum nn f 0 1439 (((zU7 nn f z).1), ((zU7 nn f z).2))).2.2)))])), (ba, .inl (cB, 400, .inl f)), (ru, .inr (0, [.int (iI ((zU2 nn f z).1)), .int (iI ((zU4 nn f z).1)), .int (iI ((zU6 nn f z).1)), .int (iI mi)]))] H := hP
  have hD : va_D (wA [(tp, .inr (1, [.ref ba, .int (iI ((nn : Int))), .int (iI ((z.1 : Int))), .int (iI (bI z.2))])), (ba, .inl (cB, 400, .inl f)), (ru, .inr (0, [.int (iI mo), .int (iI wk), .int (iI wd), .int (iI mi)]))]) [(tp, .inr (1, [.ref ba, .int (iI ((nn : Int))), .int (iI ((((zNum nn f 0 1439 (((zU7 nn f z).1), ((zU7 nn f z).2))).2.1 : Nat) : Int))), .int (iI (bI ((zNum nn f 0 1439 (((zU7 nn f z).1), ((zU7 nn f z).2))).2.2)))])), (ba, .inl (cB, 400, .inl f)), (ru, .inr (0, [.int (iI ((zU2 nn f z).1)), .int (iI ((zU4 nn f z).1)), .int (iI ((zU6 nn f z).1)), .int (iI mi)]))] := hD
  have hP : va_P D vwCl [(tp, .inr (1, [.ref ba, .int (iI ((nn : Int))), .int (iI ((((zU8 nn f z).2.1 : Nat) : Int))), .int (iI (bI ((zU8 nn f z).2.2)))])), (ba, .inl (cB, 400, .inl f)), (ru, .inr (0, [.int (iI ((zU2 nn f z).1)), .int (iI ((zU4 nn f z).1)), .int (iI ((zU6 nn f z).1)), .int (iI mi)]))] H := hP
  have hD : va_D (wA [(tp, .inr (1, [.ref ba, .int (iI ((nn : Int))), .int (iI ((z.1 : Int))), .int (iI (bI z.2))])), (ba, .inl (cB, 400, .inl f)), (ru, .inr (0, [.int (iI mo), .int (iI wk), .int (iI wd), .int (iI mi)]))]) [(tp, .inr (1, [.ref ba, .int (iI ((nn : Int))), .int (iI ((((zU8 nn f z).2.1 : Nat) : Int))), .int (iI (bI ((zU8 nn f z).2.2)))])), (ba, .inl (cB, 400, .inl f)), (ru, .inr (0, [.int (iI ((zU2 nn f z).1)), .int (iI ((zU4 nn f z).1)), .int (iI ((zU6 nn f z).1)), .int (iI mi)]))] := hD
  have gu8 := zU8_b (f := f) gz
  refine g_putN hx hb hk hown hK hP hD hS 2 rfl f_Tape_74 fT_Rule rfl (rfl) rfl (Nat.le_of_ble_eq_true rfl) d_Tape_readRule_65 (fun H locs hP hD hS => ?_)
  have hP : va_P D vwCl [(tp, .inr (1, [.ref ba, .int (iI ((nn : Int))), .int (iI ((((zU8 nn f z).2.1 : Nat) : Int))), .int (iI (bI ((zU8 nn f z).2.2)))])), (ba, .inl (cB, 400, .inl f)), (ru, .inr (0, [.int (iI ((zU2 nn f z).1)), .int (iI ((zU4 nn f z).1)), .int (iI ((zU6 nn f z).1)), .int (iI ((zU8 nn f z).1))]))] H := hP
  have hD : va_D (wA [(tp, .inr (1, [.ref ba, .int (iI ((nn : Int))), .int (iI ((z.1 : Int))), .int (iI (bI z.2))])), (ba, .inl (cB, 400, .inl f)), (ru, .inr (0, [.int (iI mo), .int (iI wk), .int (iI wd), .int (iI mi)]))]) [(tp, .inr (1, [.ref ba, .int (iI ((nn : Int))), .int (iI ((((zU8 nn f z).2.1 : Nat) : Int))), .int (iI (bI ((zU8 nn f z).2.2)))])), (ba, .inl (cB, 400, .inl f)), (ru, .inr (0, [.int (iI ((zU2 nn f z).1)), .int (iI ((zU4 nn f z).1)), .int (iI ((zU6 nn f z).1)), .int (iI ((zU8 nn f z).1))]))] := hD
  exact m_vret hx hb hr hlk hP hS d_Tape_readRule_68 (by rfl)
abbrev rm_Tape_readZone : Room := { frames := 4, cells := 0, slots := 0, locals := 89 }
set_option maxHeartbeats 4000000 in
set_option maxRecDepth 100000 in
theorem ct_Tape_readZone (l : Launch) (D : va_G) (tys : List (ClassId × FieldType)) (tp : Nat) (ba : Nat) (cB : ClassId) (nn : Nat) (i : Nat) (bk : Bool) (f : Nat → Int32) (zo : Nat) (zb : Nat) (ze : Nat) (off : Int) (sv : Int) (b1 : Int) (b2 : Int) (b3 : Int) (b4 : Int) (e1 : Int) (e2 : Int) (e3 : Int) (e4 : Int) (hty : tys[0]? = some (cB, .byte)) (gn : nn ≤ 400) : mMet l y_Tape_readZone c_Tape_readZone 2 (some .int) rm_Tape_readZone D tys [.ref tp, .ref zo] [(tp, .inr (1, [.ref ba, .int (iI ((nn : Int))), .int (iI ((i : Int))), .int (iI (bI bk))])), (ba, .inl (cB, 400, .inl f)), (zo, .inr (2, [.int (iI off), .int (iI sv), .ref zb, .ref ze])), (zb, .inr (0, [.int (iI b1), .int (iI b2), .int (iI b3), .int (iI b4)])), (ze, .inr (0, [.int (iI e1), .int (iI e2), .int (iI e3), .int (iI e4)]))] (some (.int (iI (zPlace nn f)))) [(tp, .inr (1, [.ref ba, .int (iI ((nn : Int))), .int (iI ((((zEnd nn f).1 : Nat) : Int))), .int (iI (bI (zBad nn f)))])), (ba, .inl (cB, 400, .inl f)), (zo, .inr (2, [.int (iI (zOff nn f)), .int (iI (zSave nn f)), .ref zb, .ref ze])), (zb, .inr (0, [.int (iI ((rsel (zMore nn f) (zR1 nn f).1 (b1, b2, b3, b4)).1)), .int (iI ((rsel (zMore nn f) (zR1 nn f).1 (b1, b2, b3, b4)).2.1)), .int (iI ((rsel (zMore nn f) (zR1 nn f).1 (b1, b2, b3, b4)).2.2.1)), .int (iI ((rsel (zMore nn f) (zR1 nn f).1 (b1, b2, b3, b4)).2.2.2))])), (ze, .inr (0, [.int (iI ((rsel (zMore nn f) (zR2 nn f).1 (e1, e2, e3, e4)).1)), .int (iI ((rsel (zMore nn f) (zR2 nn f).1 (e1, e2, e3, e4)).2.1)), .int (iI ((rsel (zMore nn f) (zR2 nn f).1 (e1, e2, e3, e4)).2.2.1)), .int (iI ((rsel (zMore nn f) (zR2 nn f).1 (e1, e2, e3, e4)).2.2.2))]))] := by
  refine mMet_of (by decide) (Nat.le_of_ble_eq_true rfl) ?_
  intro p e s m below meth c hx hb hr hown hlk hml hk hK hP hD hS ls hl
  have hl : lv_has ls 2 [(0, .ref tp), (1, .ref zo)] := hl
  have gS := zS2_b nn f
  have gR := zR2_b nn f
  refine lv_aload_n hx hb d_Tape_readZone_0 rfl (lv_at hl 0 rfl) ?_
  refine lv_iconst (v := iI 0) hx hb d_Tape_readZone_1 rfl ?_
  refine g_put hx hb hk hown hK hP hD hS 0 rfl f_Tape_19 fT_Tape rfl (rfl) rfl (Nat.le_of_ble_eq_true rfl) d_Tape_readZone_2 (fun H locs hP hD hS => ?_)
  have hP : va_P D vwCl [(tp, .inr (1, [.ref ba, .int (iI ((nn : Int))), .int (iI 0), .int (iI (bI bk))])), (ba, .inl (cB, 400, .inl f)), (zo, .inr (2, [.int (iI off), .int (iI sv), .ref zb, .ref ze])), (zb, .inr (0, [.int (iI b1), .int (iI b2), .int (iI b3), .int (iI b4)])), (ze, .inr (0, [.int (iI e1), .int (iI e2), .int (iI e3), .int (iI e4)]))] H := hP
  have hD : va_D (wA [(tp, .inr (1, [.ref ba, .int (iI ((nn : Int))), .int (iI ((i : Int))), .int (iI (bI bk))])), (ba, .inl (cB, 400, .inl f)), (zo, .inr (2, [.int (iI off), .int (iI sv), .ref zb, .ref ze])), (zb, .inr (0, [.int (iI b1), .int (iI b2), .int (iI b3), .int (iI b4)])), (ze, .inr (0, [.int (iI e1), .int (iI e2), .int (iI e3), .int (iI e4)]))]) [(tp, .inr (1, [.ref ba, .int (iI ((nn : Int))), .int (iI 0), .int (iI (bI bk))])), (ba, .inl (cB, 400, .inl f)), (zo, .inr (2, [.int (iI off), .int (iI sv), .ref zb, .ref ze])), (zb, .inr (0, [.int (iI b1), .int (iI b2), .int (iI b3), .int (iI b4)])), (ze, .inr (0, [.int (iI e1), .int (iI e2), .int (iI e3), .int (iI e4)]))] := hD
  refine lv_aload_n hx hb d_Tape_readZone_5 rfl (lv_at hl 0 rfl) ?_
  refine lv_iconst (v := iI 0) hx hb d_Tape_readZone_6 rfl ?_
  refine g_put hx hb hk hown hK hP hD hS 0 rfl f_Tape_22 fT_Tape rfl (zb_nar (by decide)) rfl (Nat.le_of_ble_eq_true rfl) d_Tape_readZone_7 (fun H locs hP hD hS => ?_)
  have hP : va_P D vwCl [(tp, .inr (1, [.ref ba, .int (iI ((nn : Int))), .int (iI 0), .int (iI 0)])), (ba, .inl (cB, 400, .inl f)), (zo, .inr (2, [.int (iI off), .int (iI sv), .ref zb, .ref ze])), (zb, .inr (0, [.int (iI b1), .int (iI b2), .int (iI b3), .int (iI b4)])), (ze, .inr (0, [.int (iI e1), .int (iI e2), .int (iI e3), .int (iI e4)]))] H := hP
  have hD : va_D (wA [(tp, .inr (1, [.ref ba, .int (iI ((nn : Int))), .int (iI ((i : Int))), .int (iI (bI bk))])), (ba, .inl (cB, 400, .inl f)), (zo, .inr (2, [.int (iI off), .int (iI sv), .ref zb, .ref ze])), (zb, .inr (0, [.int (iI b1), .int (iI b2), .int (iI b3), .int (iI b4)])), (ze, .inr (0, [.int (iI e1), .int (iI e2), .int (iI e3), .int (iI e4)]))]) [(tp, .inr (1, [.ref ba, .int (iI ((nn : Int))), .int (iI 0), .int (iI 0)])), (ba, .inl (cB, 400, .inl f)), (zo, .inr (2, [.int (iI off), .int (iI sv), .ref zb, .ref ze])), (zb, .inr (0, [.int (iI b1), .int (iI b2), .int (iI b3), .int (iI b4)])), (ze, .inr (0, [.int (iI e1), .int (iI e2), .int (iI e3), .int (iI e4)]))] := hD
  refine lv_aload_n hx hb d_Tape_readZone_10 rfl (lv_at hl 1 rfl) ?_
  refine lv_aload_n hx hb d_Tape_readZone_11 rfl (lv_at hl 0 rfl) ?_
  refine m_callV (rest := [.ref zo]) (q0 := 0) hx hb (hml.trans hl.1.symm) hown hk hK k_Tape_26 (ct_Tape_readOffset l D tys tp ba cB nn f hty (by omega)) hP hD hS [0, 1] rfl rfl rfl rfl rfl rfl rfl ⟨rfl, rfl⟩ ⟨by decide, by decide, by decide, by decide⟩ (Nat.le_of_ble_eq_true rfl) d_Tape_readZone_12 (fun H locs hP hD hS => ?_)
  have hP : va_P D vwCl [(tp, .inr (1, [.ref ba, .int (iI ((nn : Int))), .int (iI ((((zS2 nn f).2.1 : Nat) : Int))), .int (iI (bI ((zS2 nn f).2.2)))])), (ba, .inl (cB, 400, .inl f)), (zo, .inr (2, [.int (iI off), .int (iI sv), .ref zb, .ref ze])), (zb, .inr (0, [.int (iI b1), .int (iI b2), .int (iI b3), .int (iI b4)])), (ze, .inr (0, [.int (iI e1), .int (iI e2), .int (iI e3), .int (iI e4)]))] H := hP
  have hD : va_D (wA [(tp, .inr (1, [.ref ba, .int (iI ((nn : Int))), .int (iI ((i : Int))), .int (iI (bI bk))])), (ba, .inl (cB, 400, .inl f)), (zo, .inr (2, [.int (iI off), .int (iI sv), .ref zb, .ref ze])), (zb, .inr (0, [.int (iI b1), .int (iI b2), .int (iI b3), .int (iI b4)])), (ze, .inr (0, [.int (iI e1), .int (iI e2), .int (iI e3), .int (iI e4)]))]) [(tp, .inr (1, [.ref ba, .int (iI ((nn : Int))), .int (iI ((((zS2 nn f).2.1 : Nat) : Int))), .int (iI (bI ((zS2 nn f).2.2)))])), (ba, .inl (cB, 400, .inl f)), (zo, .inr (2, [.int (iI off), .int (iI sv), .ref zb, .ref ze])), (zb, .inr (0, [.int (iI b1), .int (iI b2), .int (iI b3), .int (iI b4)])), (ze, .inr (0, [.int (iI e1), .int (iI e2), .int (iI e3), .int (iI e4)]))] := hD
  refine g_putN hx hb hk hown hK hP hD hS 2 rfl f_Tape_30 fT_Zone rfl (rfl) rfl (Nat.le_of_ble_eq_true rfl) d_Tape_readZone_15 (fun H locs hP hD hS => ?_)
  have hP : va_P D vwCl [(tp, .inr (1, [.ref ba, .int (iI ((nn : Int))), .int (iI ((((zS2 nn f).2.1 : Nat) : Int))), .int (iI (bI ((zS2 nn f).2.2)))])), (ba, .inl (cB, 400, .inl f)), (zo, .inr (2, [.int (iI (zOff nn f)), .int (iI sv), .ref zb, .ref ze])), (zb, .inr (0, [.int (iI b1), .int (iI b2), .int (iI b3), .int (iI b4)])), (ze, .inr (0, [.int (iI e1), .int (iI e2), .int (iI e3), .int (iI e4)]))] H := hP
  have hD : va_D (wA [(tp, .inr (1, [.ref ba, .int (iI ((nn : Int))), .int (iI ((i : Int))), .int (iI (bI bk))])), (ba, .inl (cB, 400, .inl f)), (zo, .inr (2, [.int (iI off), .int (iI sv), .ref zb, .ref ze])), (zb, .inr (0, [.int (iI b1), .int (iI b2), .int (iI b3), .int (iI b4)])), (ze, .inr (0, [.int (iI e1), .int (iI e2), .int (iI e3), .int (iI e4)]))]) [(tp, .inr (1, [.ref ba, .int (iI ((nn : Int))), .int (iI ((((zS2 nn f).2.1 : Nat) : Int))), .int (iI (bI ((zS2 nn f).2.2)))])), (ba, .inl (cB, 400, .inl f)), (zo, .inr (2, [.int (iI (zOff nn f)), .int (iI sv), .ref zb, .ref ze])), (zb, .inr (0, [.int (iI b1), .int (iI b2), .int (iI b3), .int (iI b4)])), (ze, .inr (0, [.int (iI e1), .int (iI e2), .int (iI e3), .int (iI e4)]))] := hD
  refine lv_aload_n hx hb d_Tape_readZone_18 rfl (lv_at hl 1 rfl) ?_
  refine lv_iconst (v := iI 0) hx hb d_Tape_readZone_19 rfl ?_
  refine g_putN hx hb hk hown hK hP hD hS 2 rfl f_Tape_35 fT_Zone rfl (rfl) rfl (Nat.le_of_ble_eq_true rfl) d_Tape_readZone_20 (fun H locs hP hD hS => ?_)
  have hP : va_P D vwCl [(tp, .inr (1, [.ref ba, .int (iI ((nn : Int))), .int (iI ((((zS2 nn f).2.1 : Nat) : Int))), .int (iI (bI ((zS2 nn f).2.2)))])), (ba, .inl (cB, 400, .inl f)), (zo, .inr (2, [.int (iI (zOff nn f)), .int (iI 0), .ref zb, .ref ze])), (zb, .inr (0, [.int (iI b1), .int (iI b2), .int (iI b3), .int (iI b4)])), (ze, .inr (0, [.int (iI e1), .int (iI e2), .int (iI e3), .int (iI e4)]))] H := hP
  have hD : va_D (wA [(tp, .inr (1, [.ref ba, .int (iI ((nn : Int))), .int (iI ((i : Int))), .int (iI (bI bk))])), (ba, .inl (cB, 400, .inl f)), (zo, .inr (2, [.int (iI off), .int (iI sv), .ref zb, .ref ze])), (zb, .inr (0, [.int (iI b1), .int (iI b2), .int (iI b3), .int (iI b4)])), (ze, .inr (0, [.int (iI e1), .int (iI e2), .int (iI e3), .int (iI e4)]))]) [(tp, .inr (1, [.ref ba, .int (iI ((nn : Int))), .int (iI ((((zS2 nn f).2.1 : Nat) : Int))), .int (iI (bI ((zS2 nn f).2.2)))])), (ba, .inl (cB, 400, .inl f)), (zo, .inr (2, [.int (iI (zOff nn f)), .int (iI 0), .ref zb, .ref ze])), (zb, .inr (0, [.int (iI b1), .int (iI b2), .int (iI b3), .int (iI b4)])), (ze, .inr (0, [.int (iI e1), .int (iI e2), .int (iI e3), .int (iI e4)]))] := hD
  refine lv_aload_n hx hb d_Tape_readZone_23 rfl (lv_at hl 0 rfl) ?_
  refine g_get hx hb hk hown hK hP 0 rfl f_Tape_19 rfl d_Tape_readZone_24 ?_
  refine lv_aload_n hx hb d_Tape_readZone_27 rfl (lv_at hl 0 rfl) ?_
  refine g_get hx hb hk hown hK hP 0 rfl f_Tape_15 rfl d_Tape_readZone_28 ?_
  refine ri_icmp_ge (tgt := 73) hx hb d_Tape_readZone_31 (by decide) (fun h31 => ?_) (fun h31 => ?_)
  · refine lv_aload_n hx hb d_Tape_readZone_73 rfl (lv_at hl 0 rfl) ?_
    refine g_get hx hb hk hown hK hP 0 rfl f_Tape_19 rfl d_Tape_readZone_74 ?_
    refine lv_aload_n hx hb d_Tape_readZone_77 rfl (lv_at hl 0 rfl) ?_
    refine g_get hx hb hk hown hK hP 0 rfl f_Tape_15 rfl d_Tape_readZone_78 ?_
    refine ri_icmp_ge (tgt := 89) hx hb d_Tape_readZone_81 (by decide) (fun h81 => ?_) (fun h81 => ?_)
    · refine lv_aload_n hx hb d_Tape_readZone_89 rfl (lv_at hl 0 rfl) ?_
      refine g_get hx hb hk hown hK hP 0 rfl f_Tape_22 rfl d_Tape_readZone_90 ?_
      have gB := bI_b ((zS2 nn f).2.2)
      refine ri_if_eq (tgt := 103) hx hb d_Tape_readZone_93 (by decide) (fun h93 => ?_) (fun h93 => ?_)
      · refine lv_iconst (v := iI (-1)) hx hb d_Tape_readZone_103 rfl ?_
        have hM : zMore nn f = false := by unfold zMore; exact decide_eq_false (by omega)
        have hE : zEnd nn f = (zS2 nn f).2 := by unfold zEnd; rw [hM]; rfl
        have hB : zBad nn f = (zS2 nn f).2.2 := by unfold zBad; rw [hE, decide_eq_false (show ¬ (zS2 nn f).2.1 < nn by omega)]; rfl
        exact m_iret hx hb hr hlk hP hS d_Tape_readZone_104 (by unfold zSave; rw [hE, hB, hM]; rfl) (by unfold zPlace; rw [hB, bI_e0 h93]; rfl)
      · refine lv_aload_n hx hb d_Tape_readZone_96 rfl (lv_at hl 0 rfl) ?_
        refine g_get hx hb hk hown hK hP 0 rfl f_Tape_19 rfl d_Tape_readZone_97 ?_
        refine lv_goto (tgt := 104) hx hb d_Tape_readZone_100 (by decide) ?_
        have hM : zMore nn f = false := by unfold zMore; exact decide_eq_false (by omega)
        have hE : zEnd nn f = (zS2 nn f).2 := by unfold zEnd; rw [hM]; rfl
        have hB : zBad nn f = (zS2 nn f).2.2 := by unfold zBad; rw [hE, decide_eq_false (show ¬ (zS2 nn f).2.1 < nn by omega)]; rfl
        exact m_iret hx hb hr hlk hP hS d_Tape_readZone_104 (by unfold zSave; rw [hE, hB, hM]; rfl) (by unfold zPlace; rw [hB, hE, bI_e1 h93]; rfl)
    · exfalso; omega
  · refine lv_aload_n hx hb d_Tape_readZone_34 rfl (lv_at hl 0 rfl) ?_
    refine m_callV (rest := []) (q0 := 0) hx hb (hml.trans hl.1.symm) hown hk hK k_Tape_38 (ct_Tape_readBlanks l D tys tp ba cB nn ((zS2 nn f).2.1) ((zS2 nn f).2.2) f hty (by omega) (zS2_b nn f)) hP hD hS [0, 1] rfl rfl rfl rfl rfl rfl rfl ⟨rfl, rfl⟩ ⟨by decide, by decide, by decide, by decide⟩ (Nat.le_of_ble_eq_true rfl) d_Tape_readZone_35 (fun H locs hP hD hS => ?_)
    have hP : va_P D vwCl [(tp, .inr (1, [.ref ba, .int (iI ((nn : Int))), .int (iI ((((zBl nn f (((zS2 nn f).2.1), ((zS2 nn f).2.2))).1 : Nat) : Int))), .int (iI (bI ((zBl nn f (((zS2 nn f).2.1), ((zS2 nn f).2.2))).2)))])), (ba, .inl (cB, 400, .inl f)), (zo, .inr (2, [.int (iI (zOff nn f)), .int (iI 0), .ref zb, .ref ze])), (zb, .inr (0, [.int (iI b1), .int (iI b2), .int (iI b3), .int (iI b4)])), (ze, .inr (0, [.int (iI e1), .int (iI e2), .int (iI e3), .int (iI e4)]))] H := hP
    have hD : va_D (wA [(tp, .inr (1, [.ref ba, .int (iI ((nn : Int))), .int (iI ((i : Int))), .int (iI (bI bk))])), (ba, .inl (cB, 400, .inl f)), (zo, .inr (2, [.int (iI off), .int (iI sv), .ref zb, .ref ze])), (zb, .inr (0, [.int (iI b1), .int (iI b2), .int (iI b3), .int (iI b4)])), (ze, .inr (0, [.int (iI e1), .int (iI e2), .int (iI e3), .int (iI e4)]))]) [(tp, .inr (1, [.ref ba, .int (iI ((nn : Int))), .int (iI ((((zBl nn f (((zS2 nn f).2.1), ((zS2 nn f).2.2))).1 : Nat) : Int))), .int (iI (bI ((zBl nn f (((zS2 nn f).2.1), ((zS2 nn f).2.2))).2)))])), (ba, .inl (cB, 400, .inl f)), (zo, .inr (2, [.int (iI (zOff nn f)), .int (iI 0), .ref zb, .ref ze])), (zb, .inr (0, [.int (iI b1), .int (iI b2), .int (iI b3), .int (iI b4)])), (ze, .inr (0, [.int (iI e1), .int (iI e2), .int (iI e3), .int (iI e4)]))] := hD
    have hP : va_P D vwCl [(tp, .inr (1, [.ref ba, .int (iI ((nn : Int))), .int (iI ((((zBl nn f (zS2 nn f).2).1 : Nat) : Int))), .int (iI (bI ((zBl nn f (zS2 nn f).2).2)))])), (ba, .inl (cB, 400, .inl f)), (zo, .inr (2, [.int (iI (zOff nn f)), .int (iI 0), .ref zb, .ref ze])), (zb, .inr (0, [.int (iI b1), .int (iI b2), .int (iI b3), .int (iI b4)])), (ze, .inr (0, [.int (iI e1), .int (iI e2), .int (iI e3), .int (iI e4)]))] H := hP
    have hD : va_D (wA [(tp, .inr (1, [.ref ba, .int (iI ((nn : Int))), .int (iI ((i : Int))), .int (iI (bI bk))])), (ba, .inl (cB, 400, .inl f)), (zo, .inr (2, [.int (iI off), .int (iI sv), .ref zb, .ref ze])), (zb, .inr (0, [.int (iI b1), .int (iI b2), .int (iI b3), .int (iI b4)])), (ze, .inr (0, [.int (iI e1), .int (iI e2), .int (iI e3), .int (iI e4)]))]) [(tp, .inr (1, [.ref ba, .int (iI ((nn : Int))), .int (iI ((((zBl nn f (zS2 nn f).2).1 : Nat) : Int))), .int (iI (bI ((zBl nn f (zS2 nn f).2).2)))])), (ba, .inl (cB, 400, .inl f)), (zo, .inr (2, [.int (iI (zOff nn f)), .int (iI 0), .ref zb, .ref ze])), (zb, .inr (0, [.int (iI b1), .int (iI b2), .int (iI b3), .int (iI b4)])), (ze, .inr (0, [.int (iI e1), .int (iI e2), .int (iI e3), .int (iI e4)]))] := hD
    refine lv_aload_n hx hb d_Tape_readZone_38 rfl (lv_at hl 1 rfl) ?_
    refine lv_aload_n hx hb d_Tape_readZone_39 rfl (lv_at hl 0 rfl) ?_
    refine lv_iconst (v := iI 1) hx hb d_Tape_readZone_40 rfl ?_
    refine lv_bipush (v := iI 120) hx hb d_Tape_readZone_41 (by decide) ?_
    refine m_callV (rest := [.ref zo]) (q0 := 0) hx hb (hml.trans hl.1.symm) hown hk hK k_Tape_41 (ct_Tape_readNumber l D tys tp ba cB nn ((zBl nn f (zS2 nn f).2).1) ((zBl nn f (zS2 nn f).2).2) f 1 120 hty (by omega) (zBl_b (f := f) (zS2_b nn f)).2 (by omega) (by omega) (by omega) (by omega)) hP hD hS [0, 1] rfl rfl rfl rfl rfl rfl rfl ⟨rfl, rfl⟩ ⟨by decide, by decide, by decide, by decide⟩ (Nat.le_of_ble_eq_true rfl) d_Tape_readZone_43 (fun H locs hP hD hS => ?_)
    have hP : va_P D vwCl [(tp, .inr (1, [.ref ba, .int (iI ((nn : Int))), .int (iI ((((zNum nn f 1 120 (((zBl nn f (zS2 nn f).2).1), ((zBl nn f (zS2 nn f).2).2))).2.1 : Nat) : Int))), .int (iI (bI ((zNum nn f 1 120 (((zBl nn f (zS2 nn f).2).1), ((zBl nn f (zS2 nn f).2).2))).2.2)))])), (ba, .inl (cB, 400, .inl f)), (zo, .inr (2, [.int (iI (zOff nn f)), .int (iI 0), .ref zb, .ref ze])), (zb, .inr (0, [.int (iI b1), .int (iI b2), .int (iI b3), .int (iI b4)])), (ze, .inr (0, [.int (iI e1), .int (iI e2), .int (iI e3), .int (iI e4)]))] H := hP
    have hD : va_D (wA [(tp, .inr (1, [.ref ba, .int (iI ((nn : Int))), .int (iI ((i : Int))), .int (iI (bI bk))])), (ba, .inl (cB, 400, .inl f)), (zo, .inr (2, [.int (iI off), .int (iI sv), .ref zb, .ref ze])), (zb, .inr (0, [.int (iI b1), .int (iI b2), .int (iI b3), .int (iI b4)])), (ze, .inr (0, [.int (iI e1), .int (iI e2), .int (iI e3), .int (iI e4)]))]) [(tp, .inr (1, [.ref ba, .int (iI ((nn : Int))), .int (iI ((((zNum nn f 1 120 (((zBl nn f (zS2 nn f).2).1), ((zBl nn f (zS2 nn f).2).2))).2.1 : Nat) : Int))), .int (iI (bI ((zNum nn f 1 120 (((zBl nn f (zS2 nn f).2).1), ((zBl nn f (zS2 nn f).2).2))).2.2)))])), (ba, .inl (cB, 400, .inl f)), (zo, .inr (2, [.int (iI (zOff nn f)), .int (iI 0), .ref zb, .ref ze])), (zb, .inr (0, [.int (iI b1), .int (iI b2), .int (iI b3), .int (iI b4)])), (ze, .inr (0, [.int (iI e1), .int (iI e2), .int (iI e3), .int (iI e4)]))] := hD
    have hP : va_P D vwCl [(tp, .inr (1, [.ref ba, .int (iI ((nn : Int))), .int (iI ((((zS4 nn f).2.1 : Nat) : Int))), .int (iI (bI ((zS4 nn f).2.2)))])), (ba, .inl (cB, 400, .inl f)), (zo, .inr (2, [.int (iI (zOff nn f)), .int (iI 0), .ref zb, .ref ze])), (zb, .inr (0, [.int (iI b1), .int (iI b2), .int (iI b3), .int (iI b4)])), (ze, .inr (0, [.int (iI e1), .int (iI e2), .int (iI e3), .int (iI e4)]))] H := hP
    have hD : va_D (wA [(tp, .inr (1, [.ref ba, .int (iI ((nn : Int))), .int (iI ((i : Int))), .int (iI (bI bk))])), (ba, .inl (cB, 400, .inl f)), (zo, .inr (2, [.int (iI off), .int (iI sv), .ref zb, .ref ze])), (zb, .inr (0, [.int (iI b1), .int (iI b2), .int (iI b3), .int (iI b4)])), (ze, .inr (0, [.int (iI e1), .int (iI e2), .int (iI e3), .int (iI e4)]))]) [(tp, .inr (1, [.ref ba, .int (iI ((nn : Int))), .int (iI ((((zS4 nn f).2.1 : Nat) : Int))), .int (iI (bI ((zS4 nn f).2.2)))])), (ba, .inl (cB, 400, .inl f)), (zo, .inr (2, [.int (iI (zOff nn f)), .int (iI 0), .ref zb, .ref ze])), (zb, .inr (0, [.int (iI b1), .int (iI b2), .int (iI b3), .int (iI b4)])), (ze, .inr (0, [.int (iI e1), .int (iI e2), .int (iI e3), .int (iI e4)]))] := hD
    refine g_putN hx hb hk hown hK hP hD hS 2 rfl f_Tape_35 fT_Zone rfl (rfl) rfl (Nat.le_of_ble_eq_true rfl) d_Tape_readZone_46 (fun H locs hP hD hS => ?_)
    have hP : va_P D vwCl [(tp, .inr (1, [.ref ba, .int (iI ((nn : Int))), .int (iI ((((zS4 nn f).2.1 : Nat) : Int))), .int (iI (bI ((zS4 nn f).2.2)))])), (ba, .inl (cB, 400, .inl f)), (zo, .inr (2, [.int (iI (zOff nn f)), .int (iI ((zS4 nn f).1)), .ref zb, .ref ze])), (zb, .inr (0, [.int (iI b1), .int (iI b2), .int (iI b3), .int (iI b4)])), (ze, .inr (0, [.int (iI e1), .int (iI e2), .int (iI e3), .int (iI e4)]))] H := hP
    have hD : va_D (wA [(tp, .inr (1, [.ref ba, .int (iI ((nn : Int))), .int (iI ((i : Int))), .int (iI (bI bk))])), (ba, .inl (cB, 400, .inl f)), (zo, .inr (2, [.int (iI off), .int (iI sv), .ref zb, .ref ze])), (zb, .inr (0, [.int (iI b1), .int (iI b2), .int (iI b3), .int (iI b4)])), (ze, .inr (0, [.int (iI e1), .int (iI e2), .int (iI e3), .int (iI e4)]))]) [(tp, .inr (1, [.ref ba, .int (iI ((nn : Int))), .int (iI ((((zS4 nn f).2.1 : Nat) : Int))), .int (iI (bI ((zS4 nn f).2.2)))])), (ba, .inl (cB, 400, .inl f)), (zo, .inr (2, [.int (iI (zOff nn f)), .int (iI ((zS4 nn f).1)), .ref zb, .ref ze])), (zb, .inr (0, [.int (iI b1), .int (iI b2), .int (iI b3), .int (iI b4)])), (ze, .inr (0, [.int (iI e1), .int (iI e2), .int (iI e3), .int (iI e4)]))] := hD
    refine lv_aload_n hx hb d_Tape_readZone_49 rfl (lv_at hl 0 rfl) ?_
    refine m_callV (rest := []) (q0 := 0) hx hb (hml.trans hl.1.symm) hown hk hK k_Tape_38 (ct_Tape_readBlanks l D tys tp ba cB nn ((zS4 nn f).2.1) ((zS4 nn f).2.2) f hty (by omega) (zS4_b nn f)) hP hD hS [0, 1] rfl rfl rfl rfl rfl rfl rfl ⟨rfl, rfl⟩ ⟨by decide, by decide, by decide, by decide⟩ (Nat.le_of_ble_eq_true rfl) d_Tape_readZone_50 (fun H locs hP hD hS => ?_)
    have hP : va_P D vwCl [(tp, .inr (1, [.ref ba, .int (iI ((nn : Int))), .int (iI ((((zBl nn f (((zS4 nn f).2.1), ((zS4 nn f).2.2))).1 : Nat) : Int))), .int (iI (bI ((zBl nn f (((zS4 nn f).2.1), ((zS4 nn f).2.2))).2)))])), (ba, .inl (cB, 400, .inl f)), (zo, .inr (2, [.int (iI (zOff nn f)), .int (iI ((zS4 nn f).1)), .ref zb, .ref ze])), (zb, .inr (0, [.int (iI b1), .int (iI b2), .int (iI b3), .int (iI b4)])), (ze, .inr (0, [.int (iI e1), .int (iI e2), .int (iI e3), .int (iI e4)]))] H := hP
    have hD : va_D (wA [(tp, .inr (1, [.ref ba, .int (iI ((nn : Int))), .int (iI ((i : Int))), .int (iI (bI bk))])), (ba, .inl (cB, 400, .inl f)), (zo, .inr (2, [.int (iI off), .int (iI sv), .ref zb, .ref ze])), (zb, .inr (0, [.int (iI b1), .int (iI b2), .int (iI b3), .int (iI b4)])), (ze, .inr (0, [.int (iI e1), .int (iI e2), .int (iI e3), .int (iI e4)]))]) [(tp, .inr (1, [.ref ba, .int (iI ((nn : Int))), .int (iI ((((zBl nn f (((zS4 nn f).2.1), ((zS4 nn f).2.2))).1 : Nat) : Int))), .int (iI (bI ((zBl nn f (((zS4 nn f).2.1), ((zS4 nn f).2.2))).2)))])), (ba, .inl (cB, 400, .inl f)), (zo, .inr (2, [.int (iI (zOff nn f)), .int (iI ((zS4 nn f).1)), .ref zb, .ref ze])), (zb, .inr (0, [.int (iI b1), .int (iI b2), .int (iI b3), .int (iI b4)])), (ze, .inr (0, [.int (iI e1), .int (iI e2), .int (iI e3), .int (iI e4)]))] := hD
    have hP : va_P D vwCl [(tp, .inr (1, [.ref ba, .int (iI ((nn : Int))), .int (iI ((((zBl nn f (zS4 nn f).2).1 : Nat) : Int))), .int (iI (bI ((zBl nn f (zS4 nn f).2).2)))])), (ba, .inl (cB, 400, .inl f)), (zo, .inr (2, [.int (iI (zOff nn f)), .int (iI ((zS4 nn f).1)), .ref zb, .ref ze])), (zb, .inr (0, [.int (iI b1), .int (iI b2), .int (iI b3), .int (iI b4)])), (ze, .inr (0, [.int (iI e1), .int (iI e2), .int (iI e3), .int (iI e4)]))] H := hP
    have hD : va_D (wA [(tp, .inr (1, [.ref ba, .int (iI ((nn : Int))), .int (iI ((i : Int))), .int (iI (bI bk))])), (ba, .inl (cB, 400, .inl f)), (zo, .inr (2, [.int (iI off), .int (iI sv), .ref zb, .ref ze])), (zb, .inr (0, [.int (iI b1), .int (iI b2), .int (iI b3), .int (iI b4)])), (ze, .inr (0, [.int (iI e1), .int (iI e2), .int (iI e3), .int (iI e4)]))]) [(tp, .inr (1, [.ref ba, .int (iI ((nn : Int))), .int (iI ((((zBl nn f (zS4 nn f).2).1 : Nat) : Int))), .int (iI (bI ((zBl nn f (zS4 nn f).2).2)))])), (ba, .inl (cB, 400, .inl f)), (zo, .inr (2, [.int (iI (zOff nn f)), .int (iI ((zS4 nn f).1)), .ref zb, .ref ze])), (zb, .inr (0, [.int (iI b1), .int (iI b2), .int (iI b3), .int (iI b4)])), (ze, .inr (0, [.int (iI e1), .int (iI e2), .int (iI e3), .int (iI e4)]))] := hD
    refine lv_aload_n hx hb d_Tape_readZone_53 rfl (lv_at hl 0 rfl) ?_
    refine lv_aload_n hx hb d_Tape_readZone_54 rfl (lv_at hl 1 rfl) ?_
    refine g_getN hx hb hk hown hK hP 2 rfl f_Tape_45 rfl d_Tape_readZone_55 ?_
    refine m_callV (rest := []) (q0 := 0) hx hb (hml.trans hl.1.symm) hown hk hK k_Tape_49 (ct_Tape_readRule l D tys tp ba cB nn f ((zBl nn f (zS4 nn f).2)) zb b1 b2 b3 b4 hty (by omega) (zBl_b (f := f) (zS4_b nn f)).2) hP hD hS [0, 1, 3] rfl rfl rfl rfl rfl rfl rfl ⟨rfl, rfl⟩ ⟨by decide, by decide, by decide, by decide⟩ (Nat.le_of_ble_eq_true rfl) d_Tape_readZone_58 (fun H locs hP hD hS => ?_)
    have hP : va_P D vwCl [(tp, .inr (1, [.ref ba, .int (iI ((nn : Int))), .int (iI ((((zRu nn f ((zBl nn f (zS4 nn f).2))).2.1 : Nat) : Int))), .int (iI (bI ((zRu nn f ((zBl nn f (zS4 nn f).2))).2.2)))])), (ba, .inl (cB, 400, .inl f)), (zo, .inr (2, [.int (iI (zOff nn f)), .int (iI ((zS4 nn f).1)), .ref zb, .ref ze])), (zb, .inr (0, [.int (iI ((zRu nn f ((zBl nn f (zS4 nn f).2))).1.1)), .int (iI ((zRu nn f ((zBl nn f (zS4 nn f).2))).1.2.1)), .int (iI ((zRu nn f ((zBl nn f (zS4 nn f).2))).1.2.2.1)), .int (iI ((zRu nn f ((zBl nn f (zS4 nn f).2))).1.2.2.2))])), (ze, .inr (0, [.int (iI e1), .int (iI e2), .int (iI e3), .int (iI e4)]))] H := hP
    have hD : va_D (wA [(tp, .inr (1, [.ref ba, .int (iI ((nn : Int))), .int (iI ((i : Int))), .int (iI (bI bk))])), (ba, .inl (cB, 400, .inl f)), (zo, .inr (2, [.int (iI off), .int (iI sv), .ref zb, .ref ze])), (zb, .inr (0, [.int (iI b1), .int (iI b2), .int (iI b3), .int (iI b4)])), (ze, .inr (0, [.int (iI e1), .int (iI e2), .int (iI e3), .int (iI e4)]))]) [(tp, .inr (1, [.ref ba, .int (iI ((nn : Int))), .int (iI ((((zRu nn f ((zBl nn f (zS4 nn f).2))).2.1 : Nat) : Int))), .int (iI (bI ((zRu nn f ((zBl nn f (zS4 nn f).2))).2.2)))])), (ba, .inl (cB, 400, .inl f)), (zo, .inr (2, [.int (iI (zOff nn f)), .int (iI ((zS4 nn f).1)), .ref zb, .ref ze])), (zb, .inr (0, [.int (iI ((zRu nn f ((zBl nn f (zS4 nn f).2))).1.1)), .int (iI ((zRu nn f ((zBl nn f (zS4 nn f).2))).1.2.1)), .int (iI ((zRu nn f ((zBl nn f (zS4 nn f).2))).1.2.2.1)), .int (iI ((zRu nn f ((zBl nn f (zS4 nn f).2))).1.2.2.2))])), (ze, .inr (0, [.int (iI e1), .int (iI e2), .int (iI e3), .int (iI e4)]))] := hD
    have hP : va_P D vwCl [(tp, .inr (1, [.ref ba, .int (iI ((nn : Int))), .int (iI ((((zR1 nn f).2.1 : Nat) : Int))), .int (iI (bI ((zR1 nn f).2.2)))])), (ba, .inl (cB, 400, .inl f)), (zo, .inr (2, [.int (iI (zOff nn f)), .int (iI ((zS4 nn f).1)), .ref zb, .ref ze])), (zb, .inr (0, [.int (iI ((zR1 nn f).1.1)), .int (iI ((zR1 nn f).1.2.1)), .int (iI ((zR1 nn f).1.2.2.1)), .int (iI ((zR1 nn f).1.2.2.2))])), (ze, .inr (0, [.int (iI e1), .int (iI e2), .int (iI e3), .int (iI e4)]))] H := hP
    have hD : va_D (wA [(tp, .inr (1, [.ref ba, .int (iI ((nn : Int))), .int (iI ((i : Int))), .int (iI (bI bk))])), (ba, .inl (cB, 400, .inl f)), (zo, .inr (2, [.int (iI off), .int (iI sv), .ref zb, .ref ze])), (zb, .inr (0, [.int (iI b1), .int (iI b2), .int (iI b3), .int (iI b4)])), (ze, .inr (0, [.int (iI e1), .int (iI e2), .int (iI e3), .int (iI e4)]))]) [(tp, .inr (1, [.ref ba, .int (iI ((nn : Int))), .int (iI ((((zR1 nn f).2.1 : Nat) : Int))), .int (iI (bI ((zR1 nn f).2.2)))])), (ba, .inl (cB, 400, .inl f)), (zo, .inr (2, [.int (iI (zOff nn f)), .int (iI ((zS4 nn f).1)), .ref zb, .ref ze])), (zb, .inr (0, [.int (iI ((zR1 nn f).1.1)), .int (iI ((zR1 nn f).1.2.1)), .int (iI ((zR1 nn f).1.2.2.1)), .int (iI ((zR1 nn f).1.2.2.2))])), (ze, .inr (0, [.int (iI e1), .int (iI e2), .int (iI e3), .int (iI e4)]))] := hD
    refine lv_aload_n hx hb d_Tape_readZone_61 rfl (lv_at hl 0 rfl) ?_
    refine m_callV (rest := []) (q0 := 0) hx hb (hml.trans hl.1.symm) hown hk hK k_Tape_38 (ct_Tape_readBlanks l D tys tp ba cB nn ((zR1 nn f).2.1) ((zR1 nn f).2.2) f hty (by omega) (zR1_b nn f)) hP hD hS [0, 1] rfl rfl rfl rfl rfl rfl rfl ⟨rfl, rfl⟩ ⟨by decide, by decide, by decide, by decide⟩ (Nat.le_of_ble_eq_true rfl) d_Tape_readZone_62 (fun H locs hP hD hS => ?_)
    have hP : va_P D vwCl [(tp, .inr (1, [.ref ba, .int (iI ((nn : Int))), .int (iI ((((zBl nn f (((zR1 nn f).2.1), ((zR1 nn f).2.2))).1 : Nat) : Int))), .int (iI (bI ((zBl nn f (((zR1 nn f).2.1), ((zR1 nn f).2.2))).2)))])), (ba, .inl (cB, 400, .inl f)), (zo, .inr (2, [.int (iI (zOff nn f)), .int (iI ((zS4 nn f).1)), .ref zb, .ref ze])), (zb, .inr (0, [.int (iI ((zR1 nn f).1.1)), .int (iI ((zR1 nn f).1.2.1)), .int (iI ((zR1 nn f).1.2.2.1)), .int (iI ((zR1 nn f).1.2.2.2))])), (ze, .inr (0, [.int (iI e1), .int (iI e2), .int (iI e3), .int (iI e4)]))] H := hP
    have hD : va_D (wA [(tp, .inr (1, [.ref ba, .int (iI ((nn : Int))), .int (iI ((i : Int))), .int (iI (bI bk))])), (ba, .inl (cB, 400, .inl f)), (zo, .inr (2, [.int (iI off), .int (iI sv), .ref zb, .ref ze])), (zb, .inr (0, [.int (iI b1), .int (iI b2), .int (iI b3), .int (iI b4)])), (ze, .inr (0, [.int (iI e1), .int (iI e2), .int (iI e3), .int (iI e4)]))]) [(tp, .inr (1, [.ref ba, .int (iI ((nn : Int))), .int (iI ((((zBl nn f (((zR1 nn f).2.1), ((zR1 nn f).2.2))).1 : Nat) : Int))), .int (iI (bI ((zBl nn f (((zR1 nn f).2.1), ((zR1 nn f).2.2))).2)))])), (ba, .inl (cB, 400, .inl f)), (zo, .inr (2, [.int (iI (zOff nn f)), .int (iI ((zS4 nn f).1)), .ref zb, .ref ze])), (zb, .inr (0, [.int (iI ((zR1 nn f).1.1)), .int (iI ((zR1 nn f).1.2.1)), .int (iI ((zR1 nn f).1.2.2.1)), .int (iI ((zR1 nn f).1.2.2.2))])), (ze, .inr (0, [.int (iI e1), .int (iI e2), .int (iI e3), .int (iI e4)]))] := hD
    have hP : va_P D vwCl [(tp, .inr (1, [.ref ba, .int (iI ((nn : Int))), .int (iI ((((zBl nn f (zR1 nn f).2).1 : Nat) : Int))), .int (iI (bI ((zBl nn f (zR1 nn f).2).2)))])), (ba, .inl (cB, 400, .inl f)), (zo, .inr (2, [.int (iI (zOff nn f)), .int (iI ((zS4 nn f).1)), .ref zb, .ref ze])), (zb, .inr (0, [.int (iI ((zR1 nn f).1.1)), .int (iI ((zR1 nn f).1.2.1)), .int (iI ((zR1 nn f).1.2.2.1)), .int (iI ((zR1 nn f).1.2.2.2))])), (ze, .inr (0, [.int (iI e1), .int (iI e2), .int (iI e3), .int (iI e4)]))] H := hP
    have hD : va_D (wA [(tp, .inr (1, [.ref ba, .int (iI ((nn : Int))), .int (iI ((i : Int))), .int (iI (bI bk))])), (ba, .inl (cB, 400, .inl f)), (zo, .inr (2, [.int (iI off), .int (iI sv), .ref zb, .ref ze])), (zb, .inr (0, [.int (iI b1), .int (iI b2), .int (iI b3), .int (iI b4)])), (ze, .inr (0, [.int (iI e1), .int (iI e2), .int (iI e3), .int (iI e4)]))]) [(tp, .inr (1, [.ref ba, .int (iI ((nn : Int))), .int (iI ((((zBl nn f (zR1 nn f).2).1 : Nat) : Int))), .int (iI (bI ((zBl nn f (zR1 nn f).2).2)))])), (ba, .inl (cB, 400, .inl f)), (zo, .inr (2, [.int (iI (zOff nn f)), .int (iI ((zS4 nn f).1)), .ref zb, .ref ze])), (zb, .inr (0, [.int (iI ((zR1 nn f).1.1)), .int (iI ((zR1 nn f).1.2.1)), .int (iI ((zR1 nn f).1.2.2.1)), .int (iI ((zR1 nn f).1.2.2.2))])), (ze, .inr (0, [.int (iI e1), .int (iI e2), .int (iI e3), .int (iI e4)]))] := hD
    refine lv_aload_n hx hb d_Tape_readZone_65 rfl (lv_at hl 0 rfl) ?_
    refine lv_aload_n hx hb d_Tape_readZone_66 rfl (lv_at hl 1 rfl) ?_
    refine g_getN hx hb hk hown hK hP 2 rfl f_Tape_53 rfl d_Tape_readZone_67 ?_
    refine m_callV (rest := []) (q0 := 0) hx hb (hml.trans hl.1.symm) hown hk hK k_Tape_49 (ct_Tape_readRule l D tys tp ba cB nn f ((zBl nn f (zR1 nn f).2)) ze e1 e2 e3 e4 hty (by omega) (zBl_b (f := f) (zR1_b nn f)).2) hP hD hS [0, 1, 4] rfl rfl rfl rfl rfl rfl rfl ⟨rfl, rfl⟩ ⟨by decide, by decide, by decide, by decide⟩ (Nat.le_of_ble_eq_true rfl) d_Tape_readZone_70 (fun H locs hP hD hS => ?_)
    have hP : va_P D vwCl [(tp, .inr (1, [.ref ba, .int (iI ((nn : Int))), .int (iI ((((zRu nn f ((zBl nn f (zR1 nn f).2))).2.1 : Nat) : Int))), .int (iI (bI ((zRu nn f ((zBl nn f (zR1 nn f).2))).2.2)))])), (ba, .inl (cB, 400, .inl f)), (zo, .inr (2, [.int (iI (zOff nn f)), .int (iI ((zS4 nn f).1)), .ref zb, .ref ze])), (zb, .inr (0, [.int (iI ((zR1 nn f).1.1)), .int (iI ((zR1 nn f).1.2.1)), .int (iI ((zR1 nn f).1.2.2.1)), .int (iI ((zR1 nn f).1.2.2.2))])), (ze, .inr (0, [.int (iI ((zRu nn f ((zBl nn f (zR1 nn f).2))).1.1)), .int (iI ((zRu nn f ((zBl nn f (zR1 nn f).2))).1.2.1)), .int (iI ((zRu nn f ((zBl nn f (zR1 nn f).2))).1.2.2.1)), .int (iI ((zRu nn f ((zBl nn f (zR1 nn f).2))).1.2.2.2))]))] H := hP
    have hD : va_D (wA [(tp, .inr (1, [.ref ba, .int (iI ((nn : Int))), .int (iI ((i : Int))), .int (iI (bI bk))])), (ba, .inl (cB, 400, .inl f)), (zo, .inr (2, [.int (iI off), .int (iI sv), .ref zb, .ref ze])), (zb, .inr (0, [.int (iI b1), .int (iI b2), .int (iI b3), .int (iI b4)])), (ze, .inr (0, [.int (iI e1), .int (iI e2), .int (iI e3), .int (iI e4)]))]) [(tp, .inr (1, [.ref ba, .int (iI ((nn : Int))), .int (iI ((((zRu nn f ((zBl nn f (zR1 nn f).2))).2.1 : Nat) : Int))), .int (iI (bI ((zRu nn f ((zBl nn f (zR1 nn f).2))).2.2)))])), (ba, .inl (cB, 400, .inl f)), (zo, .inr (2, [.int (iI (zOff nn f)), .int (iI ((zS4 nn f).1)), .ref zb, .ref ze])), (zb, .inr (0, [.int (iI ((zR1 nn f).1.1)), .int (iI ((zR1 nn f).1.2.1)), .int (iI ((zR1 nn f).1.2.2.1)), .int (iI ((zR1 nn f).1.2.2.2))])), (ze, .inr (0, [.int (iI ((zRu nn f ((zBl nn f (zR1 nn f).2))).1.1)), .int (iI ((zRu nn f ((zBl nn f (zR1 nn f).2))).1.2.1)), .int (iI ((zRu nn f ((zBl nn f (zR1 nn f).2))).1.2.2.1)), .int (iI ((zRu nn f ((zBl nn f (zR1 nn f).2))).1.2.2.2))]))] := hD
    have hP : va_P D vwCl [(tp, .inr (1, [.ref ba, .int (iI ((nn : Int))), .int (iI ((((zR2 nn f).2.1 : Nat) : Int))), .int (iI (bI ((zR2 nn f).2.2)))])), (ba, .inl (cB, 400, .inl f)), (zo, .inr (2, [.int (iI (zOff nn f)), .int (iI ((zS4 nn f).1)), .ref zb, .ref ze])), (zb, .inr (0, [.int (iI ((zR1 nn f).1.1)), .int (iI ((zR1 nn f).1.2.1)), .int (iI ((zR1 nn f).1.2.2.1)), .int (iI ((zR1 nn f).1.2.2.2))])), (ze, .inr (0, [.int (iI ((zR2 nn f).1.1)), .int (iI ((zR2 nn f).1.2.1)), .int (iI ((zR2 nn f).1.2.2.1)), .int (iI ((zR2 nn f).1.2.2.2))]))] H := hP
    have hD : va_D (wA [(tp, .inr (1, [.ref ba, .int (iI ((nn : Int))), .int (iI ((i : Int))), .int (iI (bI bk))])), (ba, .inl (cB, 400, .inl f)), (zo, .inr (2, [.int (iI off), .int (iI sv), .ref zb, .ref ze])), (zb, .inr (0, [.int (iI b1), .int (iI b2), .int (iI b3), .int (iI b4)])), (ze, .inr (0, [.int (iI e1), .int (iI e2), .int (iI e3), .int (iI e4)]))]) [(tp, .inr (1, [.ref ba, .int (iI ((nn : Int))), .int (iI ((((zR2 nn f).2.1 : Nat) : Int))), .int (iI (bI ((zR2 nn f).2.2)))])), (ba, .inl (cB, 400, .inl f)), (zo, .inr (2, [.int (iI (zOff nn f)), .int (iI ((zS4 nn f).1)), .ref zb, .ref ze])), (zb, .inr (0, [.int (iI ((zR1 nn f).1.1)), .int (iI ((zR1 nn f).1.2.1)), .int (iI ((zR1 nn f).1.2.2.1)), .int (iI ((zR1 nn f).1.2.2.2))])), (ze, .inr (0, [.int (iI ((zR2 nn f).1.1)), .int (iI ((zR2 nn f).1.2.1)), .int (iI ((zR2 nn f).1.2.2.1)), .int (iI ((zR2 nn f).1.2.2.2))]))] := hD
    refine lv_aload_n hx hb d_Tape_readZone_73 rfl (lv_at hl 0 rfl) ?_
    refine g_get hx hb hk hown hK hP 0 rfl f_Tape_19 rfl d_Tape_readZone_74 ?_
    refine lv_aload_n hx hb d_Tape_readZone_77 rfl (lv_at hl 0 rfl) ?_
    refine g_get hx hb hk hown hK hP 0 rfl f_Tape_15 rfl d_Tape_readZone_78 ?_
    refine ri_icmp_ge (tgt := 89) hx hb d_Tape_readZone_81 (by decide) (fun h81 => ?_) (fun h81 => ?_)
    · refine lv_aload_n hx hb d_Tape_readZone_89 rfl (lv_at hl 0 rfl) ?_
      refine g_get hx hb hk hown hK hP 0 rfl f_Tape_22 rfl d_Tape_readZone_90 ?_
      have gB := bI_b ((zR2 nn f).2.2)
      refine ri_if_eq (tgt := 103) hx hb d_Tape_readZone_93 (by decide) (fun h93 => ?_) (fun h93 => ?_)
      · refine lv_iconst (v := iI (-1)) hx hb d_Tape_readZone_103 rfl ?_
        have hM : zMore nn f = true := by unfold zMore; exact decide_eq_true (by omega)
        have hE : zEnd nn f = (zR2 nn f).2 := by unfold zEnd; rw [hM]; rfl
        have hB : zBad nn f = (zR2 nn f).2.2 := by unfold zBad; rw [hE, decide_eq_false (show ¬ (zR2 nn f).2.1 < nn by omega)]; rfl
        exact m_iret hx hb hr hlk hP hS d_Tape_readZone_104 (by unfold zSave; rw [hE, hB, hM]; rfl) (by unfold zPlace; rw [hB, bI_e0 h93]; rfl)
      · refine lv_aload_n hx hb d_Tape_readZone_96 rfl (lv_at hl 0 rfl) ?_
        refine g_get hx hb hk hown hK hP 0 rfl f_Tape_19 rfl d_Tape_readZone_97 ?_
        refine lv_goto (tgt := 104) hx hb d_Tape_readZone_100 (by decide) ?_
        have hM : zMore nn f = true := by unfold zMore; exact decide_eq_true (by omega)
        have hE : zEnd nn f = (zR2 nn f).2 := by unfold zEnd; rw [hM]; rfl
        have hB : zBad nn f = (zR2 nn f).2.2 := by unfold zBad; rw [hE, decide_eq_false (show ¬ (zR2 nn f).2.1 < nn by omega)]; rfl
        exact m_iret hx hb hr hlk hP hS d_Tape_readZone_104 (by unfold zSave; rw [hE, hB, hM]; rfl) (by unfold zPlace; rw [hB, hE, bI_e1 h93]; rfl)
    · refine lv_aload_n hx hb d_Tape_readZone_84 rfl (lv_at hl 0 rfl) ?_
      refine lv_iconst (v := iI 1) hx hb d_Tape_readZone_85 rfl ?_
      refine g_put hx hb hk hown hK hP hD hS 0 rfl f_Tape_22 fT_Tape rfl (zb_nar (by decide)) rfl (Nat.le_of_ble_eq_true rfl) d_Tape_readZone_86 (fun H locs hP hD hS => ?_)
      have hP : va_P D vwCl [(tp, .inr (1, [.ref ba, .int (iI ((nn : Int))), .int (iI ((((zR2 nn f).2.1 : Nat) : Int))), .int (iI 1)])), (ba, .inl (cB, 400, .inl f)), (zo, .inr (2, [.int (iI (zOff nn f)), .int (iI ((zS4 nn f).1)), .ref zb, .ref ze])), (zb, .inr (0, [.int (iI ((zR1 nn f).1.1)), .int (iI ((zR1 nn f).1.2.1)), .int (iI ((zR1 nn f).1.2.2.1)), .int (iI ((zR1 nn f).1.2.2.2))])), (ze, .inr (0, [.int (iI ((zR2 nn f).1.1)), .int (iI ((zR2 nn f).1.2.1)), .int (iI ((zR2 nn f).1.2.2.1)), .int (iI ((zR2 nn f).1.2.2.2))]))] H := hP
      have hD : va_D (wA [(tp, .inr (1, [.ref ba, .int (iI ((nn : Int))), .int (iI ((i : Int))), .int (iI (bI bk))])), (ba, .inl (cB, 400, .inl f)), (zo, .inr (2, [.int (iI off), .int (iI sv), .ref zb, .ref ze])), (zb, .inr (0, [.int (iI b1), .int (iI b2), .int (iI b3), .int (iI b4)])), (ze, .inr (0, [.int (iI e1), .int (iI e2), .int (iI e3), .int (iI e4)]))]) [(tp, .inr (1, [.ref ba, .int (iI ((nn : Int))), .int (iI ((((zR2 nn f).2.1 : Nat) : Int))), .int (iI 1)])), (ba, .inl (cB, 400, .inl f)), (zo, .inr (2, [.int (iI (zOff nn f)), .int (iI ((zS4 nn f).1)), .ref zb, .ref ze])), (zb, .inr (0, [.int (iI ((zR1 nn f).1.1)), .int (iI ((zR1 nn f).1.2.1)), .int (iI ((zR1 nn f).1.2.2.1)), .int (iI ((zR1 nn f).1.2.2.2))])), (ze, .inr (0, [.int (iI ((zR2 nn f).1.1)), .int (iI ((zR2 nn f).1.2.1)), .int (iI ((zR2 nn f).1.2.2.1)), .int (iI ((zR2 nn f).1.2.2.2))]))] := hD
      refine lv_aload_n hx hb d_Tape_readZone_89 rfl (lv_at hl 0 rfl) ?_
      refine g_get hx hb hk hown hK hP 0 rfl f_Tape_22 rfl d_Tape_readZone_90 ?_
      refine ri_if_eq (tgt := 103) hx hb d_Tape_readZone_93 (by decide) (fun h93 => ?_) (fun h93 => ?_)
      · exfalso; omega
      · refine lv_aload_n hx hb d_Tape_readZone_96 rfl (lv_at hl 0 rfl) ?_
        refine g_get hx hb hk hown hK hP 0 rfl f_Tape_19 rfl d_Tape_readZone_97 ?_
        refine lv_goto (tgt := 104) hx hb d_Tape_readZone_100 (by decide) ?_
        have hM : zMore nn f = true := by unfold zMore; exact decide_eq_true (by omega)
        have hE : zEnd nn f = (zR2 nn f).2 := by unfold zEnd; rw [hM]; rfl
        have hB : zBad nn f = true := by unfold zBad; rw [hE, decide_eq_true (show (zR2 nn f).2.1 < nn by omega)]; rfl
        exact m_iret hx hb hr hlk hP hS d_Tape_readZone_104 (by unfold zSave; rw [hE, hB, hM]; rfl) (by unfold zPlace; rw [hB, hE]; rfl)
abbrev rm_Tape_append : Room := { frames := 0, cells := 0, slots := 0, locals := 0 }
set_option maxHeartbeats 4000000 in
set_option maxRecDepth 100000 in
theorem ct_Tape_append (l : Launch) (D : va_G) (tys : List (ClassId × FieldType)) (tp : Nat) (ba : Nat) (cB : ClassId) (nn : Nat) (i : Nat) (bk : Bool) (f : Nat → Int32) (xx : Int32) (hty : tys[0]? = some (cB, .byte)) (gn : nn + 4 ≤ 400) : mMet l y_Tape_append c_Tape_append 3 none rm_Tape_append D tys [.ref tp, .int xx] [(tp, .inr (1, [.ref ba, .int (iI ((nn : Int))), .int (iI ((i : Int))), .int (iI (bI bk))])), (ba, .inl (cB, 400, .inl f))] none [(tp, .inr (1, [.ref ba, .int (iI (((nn + 4 : Nat) : Int))), .int (iI ((i : Int))), .int (iI (bI bk))])), (ba, .inl (cB, 400, .inl (ap4 f nn xx)))] := by
  refine mMet_of (by decide) (Nat.le_of_ble_eq_true rfl) ?_
  intro p e s m below meth c hx hb hr hown hlk hml hk hK hP hD hS ls hl
  have hl : lv_has ls 3 [(0, .ref tp), (1, .int xx)] := hl
  refine lv_bipush (v := iI 24) hx hb d_Tape_append_0 (by decide) ?_
  refine lv_istore_n (lv' := [(2, .int (iI 24)), (0, .ref tp), (1, .int xx)]) hx hb d_Tape_append_2 rfl hl (by decide) rfl (fun ls hl => ?_)
  refine lv_iload_n hx hb d_Tape_append_3 rfl (lv_at hl 0 rfl) ?_
  refine ri_if_lt (tgt := 48) hx hb d_Tape_append_4 (by decide) (fun h4 => ?_) (fun h4 => ?_)
  · exfalso; omega
  · refine lv_aload_n hx hb d_Tape_append_7 rfl (lv_at hl 1 rfl) ?_
    refine g_get hx hb hk hown hK hP 0 rfl f_Tape_15 rfl d_Tape_append_8 ?_
    refine lv_aload_n hx hb d_Tape_append_11 rfl (lv_at hl 1 rfl) ?_
    refine g_get hx hb hk hown hK hP 0 rfl f_Tape_9 rfl d_Tape_append_12 ?_
    refine va_alen hx hb hK hP 1 0 rfl hty (v := iI 400) (show Int32.ofNat 400 = iI 400 from by decide) d_Tape_append_15 ?_
    refine ri_icmp_ge (tgt := 48) hx hb d_Tape_append_16 (by decide) (fun h16 => ?_) (fun h16 => ?_)
    · exfalso; omega
    · refine lv_aload_n hx hb d_Tape_append_19 rfl (lv_at hl 1 rfl) ?_
      refine g_get hx hb hk hown hK hP 0 rfl f_Tape_9 rfl d_Tape_append_20 ?_
      refine lv_aload_n hx hb d_Tape_append_23 rfl (lv_at hl 1 rfl) ?_
      refine g_get hx hb hk hown hK hP 0 rfl f_Tape_15 rfl d_Tape_append_24 ?_
      refine lv_iload_n hx hb d_Tape_append_27 rfl (lv_at hl 2 rfl) ?_
      refine lv_iload_n hx hb d_Tape_append_28 rfl (lv_at hl 0 rfl) ?_
      refine lv_ishr hx hb d_Tape_append_29 ?_
      refine lv_i2b (v := bs xx 24) hx hb d_Tape_append_30 rfl ?_
      refine g_bast (i := nn) hx hb hK hP hD hS 1 0 rfl hty d_Tape_append_31 (fun H locs hP hD hS => ?_) (pk_vb _) (by omega) (by decide)
      have hP : va_P D vwCl [(tp, .inr (1, [.ref ba, .int (iI ((nn : Int))), .int (iI ((i : Int))), .int (iI (bI bk))])), (ba, .inl (cB, 400, .inl (upd f nn (bs xx 24))))] H := hP
      have hD : va_D (wA [(tp, .inr (1, [.ref ba, .int (iI ((nn : Int))), .int (iI ((i : Int))), .int (iI (bI bk))])), (ba, .inl (cB, 400, .inl f))]) [(tp, .inr (1, [.ref ba, .int (iI ((nn : Int))), .int (iI ((i : Int))), .int (iI (bI bk))])), (ba, .inl (cB, 400, .inl (upd f nn (bs xx 24))))] := hD
      refine lv_aload_n hx hb d_Tape_append_32 rfl (lv_at hl 1 rfl) ?_
      refine lv_dup hx hb d_Tape_append_33 rfl ?_
      refine g_get hx hb hk hown hK hP 0 rfl f_Tape_15 rfl d_Tape_append_34 ?_
      refine lv_iconst (v := iI 1) hx hb d_Tape_append_37 rfl ?_
      refine ri_iadd hx hb d_Tape_append_38 ?_
      refine ri_i (show ((nn : Int)) + 1 = ((nn + 1 : Nat) : Int) from by omega) ?_
      refine g_put hx hb hk hown hK hP hD hS 0 rfl f_Tape_15 fT_Tape rfl (rfl) rfl (Nat.le_of_ble_eq_true rfl) d_Tape_append_39 (fun H locs hP hD hS => ?_)
      have hP : va_P D vwCl [(tp, .inr (1, [.ref ba, .int (iI (((nn + 1 : Nat) : Int))), .int (iI ((i : Int))), .int (iI (bI bk))])), (ba, .inl (cB, 400, .inl (upd f nn (bs xx 24))))] H := hP
      have hD : va_D (wA [(tp, .inr (1, [.ref ba, .int (iI ((nn : Int))), .int (iI ((i : Int))), .int (iI (bI bk))])), (ba, .inl (cB, 400, .inl f))]) [(tp, .inr (1, [.ref ba, .int (iI (((nn + 1 : Nat) : Int))), .int (iI ((i : Int))), .int (iI (bI bk))])), (ba, .inl (cB, 400, .inl (upd f nn (bs xx 24))))] := hD
      refine lv_iinc (k := 0) (v := iI (24 - 8)) (lv' := [(2, .int (iI (24 - 8))), (0, .ref tp), (1, .int xx)]) hx hb d_Tape_append_42 hl rfl ((iI_add _ _).trans (congrArg iI (by omega))) (by decide) rfl (fun ls hl => ?_)
      refine lv_goto (tgt := 3) hx hb d_Tape_append_45 (by decide) ?_
      have hl : lv_has ls 3 [(2, .int (iI 16)), (0, .ref tp), (1, .int xx)] := hl
      refine lv_iload_n hx hb d_Tape_append_3 rfl (lv_at hl 0 rfl) ?_
      refine ri_if_lt (tgt := 48) hx hb d_Tape_append_4 (by decide) (fun h4 => ?_) (fun h4 => ?_)
      · exfalso; omega
      · refine lv_aload_n hx hb d_Tape_append_7 rfl (lv_at hl 1 rfl) ?_
        refine g_get hx hb hk hown hK hP 0 rfl f_Tape_15 rfl d_Tape_append_8 ?_
        refine lv_aload_n hx hb d_Tape_append_11 rfl (lv_at hl 1 rfl) ?_
        refine g_get hx hb hk hown hK hP 0 rfl f_Tape_9 rfl d_Tape_append_12 ?_
        refine va_alen hx hb hK hP 1 0 rfl hty (v := iI 400) (show Int32.ofNat 400 = iI 400 from by decide) d_Tape_append_15 ?_
        refine ri_icmp_ge (tgt := 48) hx hb d_Tape_append_16 (by decide) (fun h16 => ?_) (fun h16 => ?_)
        · exfalso; omega
        · refine lv_aload_n hx hb d_Tape_append_19 rfl (lv_at hl 1 rfl) ?_
          refine g_get hx hb hk hown hK hP 0 rfl f_Tape_9 rfl d_Tape_append_20 ?_
          refine lv_aload_n hx hb d_Tape_append_23 rfl (lv_at hl 1 rfl) ?_
          refine g_get hx hb hk hown hK hP 0 rfl f_Tape_15 rfl d_Tape_append_24 ?_
          refine lv_iload_n hx hb d_Tape_append_27 rfl (lv_at hl 2 rfl) ?_
          refine lv_iload_n hx hb d_Tape_append_28 rfl (lv_at hl 0 rfl) ?_
          refine lv_ishr hx hb d_Tape_append_29 ?_
          refine lv_i2b (v := bs xx 16) hx hb d_Tape_append_30 rfl ?_
          refine g_bast (i := nn + 1) hx hb hK hP hD hS 1 0 rfl hty d_Tape_append_31 (fun H locs hP hD hS => ?_) (pk_vb _) (by omega) (by decide)
          have hP : va_P D vwCl [(tp, .inr (1, [.ref ba, .int (iI (((nn + 1 : Nat) : Int))), .int (iI ((i : Int))), .int (iI (bI bk))])), (ba, .inl (cB, 400, .inl (upd (upd f nn (bs xx 24)) (nn + 1) (bs xx 16))))] H := hP
          have hD : va_D (wA [(tp, .inr (1, [.ref ba, .int (iI ((nn : Int))), .int (iI ((i : Int))), .int (iI (bI bk))])), (ba, .inl (cB, 400, .inl f))]) [(tp, .inr (1, [.ref ba, .int (iI (((nn + 1 : Nat) : Int))), .int (iI ((i : Int))), .int (iI (bI bk))])), (ba, .inl (cB, 400, .inl (upd (upd f nn (bs xx 24)) (nn + 1) (bs xx 16))))] := hD
          refine lv_aload_n hx hb d_Tape_append_32 rfl (lv_at hl 1 rfl) ?_
          refine lv_dup hx hb d_Tape_append_33 rfl ?_
          refine g_get hx hb hk hown hK hP 0 rfl f_Tape_15 rfl d_Tape_append_34 ?_
          refine lv_iconst (v := iI 1) hx hb d_Tape_append_37 rfl ?_
          refine ri_iadd hx hb d_Tape_append_38 ?_
          refine ri_i (show (((nn + 1 : Nat) : Int)) + 1 = ((nn + 2 : Nat) : Int) from by omega) ?_
          refine g_put hx hb hk hown hK hP hD hS 0 rfl f_Tape_15 fT_Tape rfl (rfl) rfl (Nat.le_of_ble_eq_true rfl) d_Tape_append_39 (fun H locs hP hD hS => ?_)
          have hP : va_P D vwCl [(tp, .inr (1, [.ref ba, .int (iI (((nn + 2 : Nat) : Int))), .int (iI ((i : Int))), .int (iI (bI bk))])), (ba, .inl (cB, 400, .inl (upd (upd f nn (bs xx 24)) (nn + 1) (bs xx 16))))] H := hP
          have hD : va_D (wA [(tp, .inr (1, [.ref ba, .int (iI ((nn : Int))), .int (iI ((i : Int))), .int (iI (bI bk))])), (ba, .inl (cB, 400, .inl f))]) [(tp, .inr (1, [.ref ba, .int (iI (((nn + 2 : Nat) : Int))), .int (iI ((i : Int))), .int (iI (bI bk))])), (ba, .inl (cB, 400, .inl (upd (upd f nn (bs xx 24)) (nn + 1) (bs xx 16))))] := hD
          refine lv_iinc (k := 0) (v := iI (16 - 8)) (lv' := [(2, .int (iI (16 - 8))), (0, .ref tp), (1, .int xx)]) hx hb d_Tape_append_42 hl rfl ((iI_add _ _).trans (congrArg iI (by omega))) (by decide) rfl (fun ls hl => ?_)
          refine lv_goto (tgt := 3) hx hb d_Tape_append_45 (by decide) ?_
          have hl : lv_has ls 3 [(2, .int (iI 8)), (0, .ref tp), (1, .int xx)] := hl
          refine lv_iload_n hx hb d_Tape_append_3 rfl (lv_at hl 0 rfl) ?_
          refine ri_if_lt (tgt := 48) hx hb d_Tape_append_4 (by decide) (fun h4 => ?_) (fun h4 => ?_)
          · exfalso; omega
          · refine lv_aload_n hx hb d_Tape_append_7 rfl (lv_at hl 1 rfl) ?_
            refine g_get hx hb hk hown hK hP 0 rfl f_Tape_15 rfl d_Tape_append_8 ?_
            refine lv_aload_n hx hb d_Tape_append_11 rfl (lv_at hl 1 rfl) ?_
            refine g_get hx hb hk hown hK hP 0 rfl f_Tape_9 rfl d_Tape_append_12 ?_
            refine va_alen hx hb hK hP 1 0 rfl hty (v := iI 400) (show Int32.ofNat 400 = iI 400 from by decide) d_Tape_append_15 ?_
            refine ri_icmp_ge (tgt := 48) hx hb d_Tape_append_16 (by decide) (fun h16 => ?_) (fun h16 => ?_)
            · exfalso; omega
            · refine lv_aload_n hx hb d_Tape_append_19 rfl (lv_at hl 1 rfl) ?_
              refine g_get hx hb hk hown hK hP 0 rfl f_Tape_9 rfl d_Tape_append_20 ?_
              refine lv_aload_n hx hb d_Tape_append_23 rfl (lv_at hl 1 rfl) ?_
              refine g_get hx hb hk hown hK hP 0 rfl f_Tape_15 rfl d_Tape_append_24 ?_
              refine lv_iload_n hx hb d_Tape_append_27 rfl (lv_at hl 2 rfl) ?_
              refine lv_iload_n hx hb d_Tape_append_28 rfl (lv_at hl 0 rfl) ?_
              refine lv_ishr hx hb d_Tape_append_29 ?_
              refine lv_i2b (v := bs xx 8) hx hb d_Tape_append_30 rfl ?_
              refine g_bast (i := nn + 2) hx hb hK hP hD hS 1 0 rfl hty d_Tape_append_31 (fun H locs hP hD hS => ?_) (pk_vb _) (by omega) (by decide)
              have hP : va_P D vwCl [(tp, .inr (1, [.ref ba, .int (iI (((nn + 2 : Nat) : Int))), .int (iI ((i : Int))), .int (iI (bI bk))])), (ba, .inl (cB, 400, .inl (upd (upd (upd f nn (bs xx 24)) (nn + 1) (bs xx 16)) (nn + 2) (bs xx 8))))] H := hP
              have hD : va_D (wA [(tp, .inr (1, [.ref ba, .int (iI ((nn : Int))), .int (iI ((i : Int))), .int (iI (bI bk))])), (ba, .inl (cB, 400, .inl f))]) [(tp, .inr (1, [.ref ba, .int (iI (((nn + 2 : Nat) : Int))), .int (iI ((i : Int))), .int (iI (bI bk))])), (ba, .inl (cB, 400, .inl (upd (upd (upd f nn (bs xx 24)) (nn + 1) (bs xx 16)) (nn + 2) (bs xx 8))))] := hD
              refine lv_aload_n hx hb d_Tape_append_32 rfl (lv_at hl 1 rfl) ?_
              refine lv_dup hx hb d_Tape_append_33 rfl ?_
              refine g_get hx hb hk hown hK hP 0 rfl f_Tape_15 rfl d_Tape_append_34 ?_
              refine lv_iconst (v := iI 1) hx hb d_Tape_append_37 rfl ?_
              refine ri_iadd hx hb d_Tape_append_38 ?_
              refine ri_i (show (((nn + 2 : Nat) : Int)) + 1 = ((nn + 3 : Nat) : Int) from by omega) ?_
              refine g_put hx hb hk hown hK hP hD hS 0 rfl f_Tape_15 fT_Tape rfl (rfl) rfl (Nat.le_of_ble_eq_true rfl) d_Tape_append_39 (fun H locs hP hD hS => ?_)
              have hP : va_P D vwCl [(tp, .inr (1, [.ref ba, .int (iI (((nn + 3 : Nat) : Int))), .int (iI ((i : Int))), .int (iI (bI bk))])), (ba, .inl (cB, 400, .inl (upd (upd (upd f nn (bs xx 24)) (nn + 1) (bs xx 16)) (nn + 2) (bs xx 8))))] H := hP
              have hD : va_D (wA [(tp, .inr (1, [.ref ba, .int (iI ((nn : Int))), .int (iI ((i : Int))), .int (iI (bI bk))])), (ba, .inl (cB, 400, .inl f))]) [(tp, .inr (1, [.ref ba, .int (iI (((nn + 3 : Nat) : Int))), .int (iI ((i : Int))), .int (iI (bI bk))])), (ba, .inl (cB, 400, .inl (upd (upd (upd f nn (bs xx 24)) (nn + 1) (bs xx 16)) (nn + 2) (bs xx 8))))] := hD
              refine lv_iinc (k := 0) (v := iI (8 - 8)) (lv' := [(2, .int (iI (8 - 8))), (0, .ref tp), (1, .int xx)]) hx hb d_Tape_append_42 hl rfl ((iI_add _ _).trans (congrArg iI (by omega))) (by decide) rfl (fun ls hl => ?_)
              refine lv_goto (tgt := 3) hx hb d_Tape_append_45 (by decide) ?_
              have hl : lv_has ls 3 [(2, .int (iI 0)), (0, .ref tp), (1, .int xx)] := hl
              refine lv_iload_n hx hb d_Tape_append_3 rfl (lv_at hl 0 rfl) ?_
              refine ri_if_lt (tgt := 48) hx hb d_Tape_append_4 (by decide) (fun h4 => ?_) (fun h4 => ?_)
              · exfalso; omega
              · refine lv_aload_n hx hb d_Tape_append_7 rfl (lv_at hl 1 rfl) ?_
                refine g_get hx hb hk hown hK hP 0 rfl f_Tape_15 rfl d_Tape_append_8 ?_
                refine lv_aload_n hx hb d_Tape_append_11 rfl (lv_at hl 1 rfl) ?_
                refine g_get hx hb hk hown hK hP 0 rfl f_Tape_9 rfl d_Tape_append_12 ?_
                refine va_alen hx hb hK hP 1 0 rfl hty (v := iI 400) (show Int32.ofNat 400 = iI 400 from by decide) d_Tape_append_15 ?_
                refine ri_icmp_ge (tgt := 48) hx hb d_Tape_append_16 (by decide) (fun h16 => ?_) (fun h16 => ?_)
                · exfalso; omega
                · refine lv_aload_n hx hb d_Tape_append_19 rfl (lv_at hl 1 rfl) ?_
                  refine g_get hx hb hk hown hK hP 0 rfl f_Tape_9 rfl d_Tape_append_20 ?_
                  refine lv_aload_n hx hb d_Tape_append_23 rfl (lv_at hl 1 rfl) ?_
                  refine g_get hx hb hk hown hK hP 0 rfl f_Tape_15 rfl d_Tape_append_24 ?_
                  refine lv_iload_n hx hb d_Tape_append_27 rfl (lv_at hl 2 rfl) ?_
                  refine lv_iload_n hx hb d_Tape_append_28 rfl (lv_at hl 0 rfl) ?_
                  refine lv_ishr hx hb d_Tape_append_29 ?_
                  refine lv_i2b (v := bs xx 0) hx hb d_Tape_append_30 rfl ?_
                  refine g_bast (i := nn + 3) hx hb hK hP hD hS 1 0 rfl hty d_Tape_append_31 (fun H locs hP hD hS => ?_) (pk_vb _) (by omega) (by decide)
                  have hP : va_P D vwCl [(tp, .inr (1, [.ref ba, .int (iI (((nn + 3 : Nat) : Int))), .int (iI ((i : Int))), .int (iI (bI bk))])), (ba, .inl (cB, 400, .inl (upd (upd (upd (upd f nn (bs xx 24)) (nn + 1) (bs xx 16)) (nn + 2) (bs xx 8)) (nn + 3) (bs xx 0))))] H := hP
                  have hD : va_D (wA [(tp, .inr (1, [.ref ba, .int (iI ((nn : Int))), .int (iI ((i : Int))), .int (iI (bI bk))])), (ba, .inl (cB, 400, .inl f))]) [(tp, .inr (1, [.ref ba, .int (iI (((nn + 3 : Nat) : Int))), .int (iI ((i : Int))), .int (iI (bI bk))])), (ba, .inl (cB, 400, .inl (upd (upd (upd (upd f nn (bs xx 24)) (nn + 1) (bs xx 16)) (nn + 2) (bs xx 8)) (nn + 3) (bs xx 0))))] := hD
                  refine lv_aload_n hx hb d_Tape_append_32 rfl (lv_at hl 1 rfl) ?_
                  refine lv_dup hx hb d_Tape_append_33 rfl ?_
                  refine g_get hx hb hk hown hK hP 0 rfl f_Tape_15 rfl d_Tape_append_34 ?_
                  refine lv_iconst (v := iI 1) hx hb d_Tape_append_37 rfl ?_
                  refine ri_iadd hx hb d_Tape_append_38 ?_
                  refine ri_i (show (((nn + 3 : Nat) : Int)) + 1 = ((nn + 4 : Nat) : Int) from by omega) ?_
                  refine g_put hx hb hk hown hK hP hD hS 0 rfl f_Tape_15 fT_Tape rfl (rfl) rfl (Nat.le_of_ble_eq_true rfl) d_Tape_append_39 (fun H locs hP hD hS => ?_)
                  have hP : va_P D vwCl [(tp, .inr (1, [.ref ba, .int (iI (((nn + 4 : Nat) : Int))), .int (iI ((i : Int))), .int (iI (bI bk))])), (ba, .inl (cB, 400, .inl (upd (upd (upd (upd f nn (bs xx 24)) (nn + 1) (bs xx 16)) (nn + 2) (bs xx 8)) (nn + 3) (bs xx 0))))] H := hP
                  have hD : va_D (wA [(tp, .inr (1, [.ref ba, .int (iI ((nn : Int))), .int (iI ((i : Int))), .int (iI (bI bk))])), (ba, .inl (cB, 400, .inl f))]) [(tp, .inr (1, [.ref ba, .int (iI (((nn + 4 : Nat) : Int))), .int (iI ((i : Int))), .int (iI (bI bk))])), (ba, .inl (cB, 400, .inl (upd (upd (upd (upd f nn (bs xx 24)) (nn + 1) (bs xx 16)) (nn + 2) (bs xx 8)) (nn + 3) (bs xx 0))))] := hD
                  refine lv_iinc (k := 0) (v := iI (0 - 8)) (lv' := [(2, .int (iI (0 - 8))), (0, .ref tp), (1, .int xx)]) hx hb d_Tape_append_42 hl rfl ((iI_add _ _).trans (congrArg iI (by omega))) (by decide) rfl (fun ls hl => ?_)
                  refine lv_goto (tgt := 3) hx hb d_Tape_append_45 (by decide) ?_
                  have hl : lv_has ls 3 [(2, .int (iI (-8))), (0, .ref tp), (1, .int xx)] := hl
                  refine lv_iload_n hx hb d_Tape_append_3 rfl (lv_at hl 0 rfl) ?_
                  refine ri_if_lt (tgt := 48) hx hb d_Tape_append_4 (by decide) (fun h4 => ?_) (fun h4 => ?_)
                  · exact m_vret hx hb hr hlk hP hS d_Tape_append_48 (by rfl)
                  · exfalso; omega
