/-! Contracts: Calendar (months, parts), Rule. By program (wip/whole/m_rule.py). -/
abbrev rm_Cal_monthOf : Room := { frames := 2, cells := 0, slots := 0, locals := 46 }
set_option maxHeartbeats 4000000 in
set_option maxRecDepth 100000 in
theorem ct_Cal_monthOf (l : Launch) (D : va_G) (tys : List (ClassId × FieldType)) (y : Int) (d : Int) (gy1 : 1900 ≤ y) (gy2 : y ≤ 2399) (gd1 : -1000000 ≤ d) (gd2 : d ≤ 1000000) : pMet l y_Cal_monthOf c_Cal_monthOf 3 (some .int) rm_Cal_monthOf D tys [.int (iI y), .int (iI d)] [] (.int (iI (cMo y d))) := by
  refine pMet_of (by decide) (Nat.le_of_ble_eq_true rfl) ?_
  intro p e s m below meth c hx hb hr hown hlk hml hk hK hP hD ls hl
  have hl : lv_has ls 3 [(0, .int (iI y)), (1, .int (iI d))] := hl
  refine lv_iconst (v := iI 1) hx hb d_Cal_monthOf_0 rfl ?_
  refine lv_istore_n (lv' := [(2, .int (iI 1)), (0, .int (iI y)), (1, .int (iI d))]) hx hb d_Cal_monthOf_1 rfl hl (by decide) rfl (fun ls hl => ?_)
  have loop2 : ∀ (n : Nat) (k : Int) (ls : Array Slot), (1 ≤ k) → (k ≤ 12) → (cMo y d = cMoF y d (12 - k).toNat k) → (12 - k).toNat = n → lv_has ls 3 [(2, .int (iI k)), (0, .int (iI y)), (1, .int (iI d))] → W p l e rm_Cal_monthOf s m ([.int (iI y), .int (iI d)] : List Value).toArray below meth c s.heap [] 0 0 (MQ below (pQ (.int (iI (cMo y d)))) ([.int (iI y), .int (iI d)] : List Value).toArray s 0 0 (fun _ => False)) (F0 m 2 ls []) := by
    intro n
    induction n using Nat.strongRecOn with
    | _ n ih =>
    intro k ls hk1 hk2 hv hn hl
    refine lv_iload_n hx hb d_Cal_monthOf_2 rfl (lv_at hl 0 rfl) ?_
    refine lv_bipush (v := iI 12) hx hb d_Cal_monthOf_3 (by decide) ?_
    refine ri_icmp_ge (tgt := 25) hx hb d_Cal_monthOf_5 (by decide) (fun h5 => ?_) (fun h5 => ?_)
    · refine lv_iload_n hx hb d_Cal_monthOf_25 rfl (lv_at hl 0 rfl) ?_
      exact p_iret hx hb hr hlk d_Cal_monthOf_26 (by rw [hv]; first | (rw [cMoF_step (by omega), if_neg (by omega)]; done) | (rw [show k = 12 by omega]; rfl))
    · refine lv_iload_n hx hb d_Cal_monthOf_8 rfl (lv_at hl 1 rfl) ?_
      refine lv_iload_n hx hb d_Cal_monthOf_9 rfl (lv_at hl 0 rfl) ?_
      refine lv_iconst (v := iI 1) hx hb d_Cal_monthOf_10 rfl ?_
      refine ri_iadd hx hb d_Cal_monthOf_11 ?_
      refine p_callS (rest := []) hx hb (hml.trans hl.1.symm) hown hk hK k_Cal_37 (ct_Cal_firstDayOf l D tys y (k + 1) (by omega) (by omega) (by omega) (by omega)) nil_P nil_D rfl rfl ⟨rfl, rfl⟩ ⟨by decide, by decide, by decide, by decide⟩ (Nat.le_of_ble_eq_true rfl) d_Cal_monthOf_12 ?_
      have gF := cFD_b (y := y) (mo := k + 1) (by omega) (by omega) (by omega) (by omega)
      refine lv_iload_n hx hb d_Cal_monthOf_15 rfl (lv_at hl 2 rfl) ?_
      refine ri_icmp_gt (tgt := 25) hx hb d_Cal_monthOf_16 (by decide) (fun h16 => ?_) (fun h16 => ?_)
      · refine lv_iload_n hx hb d_Cal_monthOf_25 rfl (lv_at hl 0 rfl) ?_
        exact p_iret hx hb hr hlk d_Cal_monthOf_26 (by rw [hv]; first | (rw [cMoF_step (by omega), if_neg (by omega)]; done) | (rw [show k = 12 by omega]; rfl))
      · refine lv_iinc (k := 0) (v := iI (k + 1)) (lv' := [(2, .int (iI (k + 1))), (0, .int (iI y)), (1, .int (iI d))]) hx hb d_Cal_monthOf_19 hl rfl (iI_add _ _) (by decide) rfl (fun ls hl => ?_)
        refine lv_goto (tgt := 2) hx hb d_Cal_monthOf_22 (by decide) ?_
        exact ih _ (by omega) (k + 1) ls (by omega) (by omega) (by rw [hv, cMoF_step (by omega), if_pos h16]) rfl (lv_sub hl [0, 1, 2] rfl)
  exact loop2 _ 1 ls (by omega) (by omega) rfl rfl (lv_sub hl [0, 1, 2] rfl)
abbrev rm_Cal_partOf : Room := { frames := 3, cells := 0, slots := 0, locals := 68 }
set_option maxHeartbeats 4000000 in
set_option maxRecDepth 100000 in
theorem ct_Cal_partOf (l : Launch) (D : va_G) (tys : List (ClassId × FieldType)) (t : Int) (w : Int) (gt1 : -1000000000 ≤ t) (gt2 : t ≤ 10540000000000) (gw1 : 0 ≤ w) (gw2 : w ≤ 6) : pMet l y_Cal_partOf c_Cal_partOf 5 (some .int) rm_Cal_partOf D tys [.long (lL t), .int (iI w)] [] (.int (iI (cPart t w))) := by
  refine pMet_of (by decide) (Nat.le_of_ble_eq_true rfl) ?_
  intro p e s m below meth c hx hb hr hown hlk hml hk hK hP hD ls hl
  have hl : lv_has ls 5 [(0, .long (lL t)), (2, .int (iI w))] := hl
  refine lv_lload_n hx hb d_Cal_partOf_0 rfl (lv_at hl 0 rfl) ?_
  refine p_callS (rest := []) hx hb (hml.trans hl.1.symm) hown hk hK k_Cal_9 (ct_Cal_dayAt l D tys t (by omega) (by omega)) nil_P nil_D rfl rfl ⟨rfl, rfl⟩ ⟨by decide, by decide, by decide, by decide⟩ (Nat.le_of_ble_eq_true rfl) d_Cal_partOf_1 ?_
  refine lv_istore_n (lv' := [(3, .int (iI (t / 86400000))), (0, .long (lL t)), (2, .int (iI w))]) hx hb d_Cal_partOf_4 rfl hl (by decide) rfl (fun ls hl => ?_)
  have gY := cY_b (d := t / 86400000) (by omega) (by omega)
  have gM := cMo_b (cY (t / 86400000)) (t / 86400000)
  refine lv_iload_n hx hb d_Cal_partOf_5 rfl (lv_at hl 0 rfl) ?_
  refine p_callS (rest := []) hx hb (hml.trans hl.1.symm) hown hk hK k_Cal_15 (ct_Cal_yearOf l D tys (t / 86400000) (by omega) (by omega)) nil_P nil_D rfl rfl ⟨rfl, rfl⟩ ⟨by decide, by decide, by decide, by decide⟩ (Nat.le_of_ble_eq_true rfl) d_Cal_partOf_6 ?_
  refine lv_istore (lv' := [(4, .int (iI (cY (t / 86400000)))), (3, .int (iI (t / 86400000))), (0, .long (lL t)), (2, .int (iI w))]) hx hb d_Cal_partOf_9 hl (by decide) rfl (fun ls hl => ?_)
  refine lv_iload_n hx hb d_Cal_partOf_11 rfl (lv_at hl 3 rfl) ?_
  obtain rfl | rfl | rfl | rfl | rfl | rfl | rfl : w = 0 ∨ w = 1 ∨ w = 2 ∨ w = 3 ∨ w = 4 ∨ w = 5 ∨ w = 6 := by omega
  · refine lv_tableIn (off := 40) (tgt := 52) hx hb d_Cal_partOf_12 (by decide) (by decide) (by decide) (by decide) ?_
    refine lv_lload_n hx hb d_Cal_partOf_52 rfl (lv_at hl 2 rfl) ?_
    refine lv_ldc2 (v := lL 60000) hx hb hown (hk _ kc_Cal_19 _) d_Cal_partOf_53 ?_
    refine p_callS (rest := []) hx hb (hml.trans hl.1.symm) hown hk hK k_Cal_21 (ct_Math_floorModJ l D tys t 60000 (by omega) (by omega) (by omega) (by omega)) nil_P nil_D rfl rfl ⟨rfl, rfl⟩ ⟨by decide, by decide, by decide, by decide⟩ (Nat.le_of_ble_eq_true rfl) d_Cal_partOf_56 ?_
    refine lv_ldc2 (v := lL 1000) hx hb hown (hk _ kc_Cal_27 _) d_Cal_partOf_59 ?_
    refine ri_ldiv hx hb d_Cal_partOf_62 ?_
    refine ri_l2i hx hb d_Cal_partOf_63 ?_
    exact p_iret hx hb hr hlk d_Cal_partOf_64 (by simp [cPart])
  · refine lv_tableIn (off := 53) (tgt := 65) hx hb d_Cal_partOf_12 (by decide) (by decide) (by decide) (by decide) ?_
    refine lv_lload_n hx hb d_Cal_partOf_65 rfl (lv_at hl 2 rfl) ?_
    refine lv_ldc2 (v := lL 3600000) hx hb hown (hk _ kc_Cal_29 _) d_Cal_partOf_66 ?_
    refine p_callS (rest := []) hx hb (hml.trans hl.1.symm) hown hk hK k_Cal_21 (ct_Math_floorModJ l D tys t 3600000 (by omega) (by omega) (by omega) (by omega)) nil_P nil_D rfl rfl ⟨rfl, rfl⟩ ⟨by decide, by decide, by decide, by decide⟩ (Nat.le_of_ble_eq_true rfl) d_Cal_partOf_69 ?_
    refine lv_ldc2 (v := lL 60000) hx hb hown (hk _ kc_Cal_19 _) d_Cal_partOf_72 ?_
    refine ri_ldiv hx hb d_Cal_partOf_75 ?_
    refine ri_l2i hx hb d_Cal_partOf_76 ?_
    exact p_iret hx hb hr hlk d_Cal_partOf_77 (by simp [cPart])
  · refine lv_tableIn (off := 66) (tgt := 78) hx hb d_Cal_partOf_12 (by decide) (by decide) (by decide) (by decide) ?_
    refine lv_lload_n hx hb d_Cal_partOf_78 rfl (lv_at hl 2 rfl) ?_
    refine lv_ldc2 (v := lL 86400000) hx hb hown (hk _ kc_Cal_31 _) d_Cal_partOf_79 ?_
    refine p_callS (rest := []) hx hb (hml.trans hl.1.symm) hown hk hK k_Cal_21 (ct_Math_floorModJ l D tys t 86400000 (by omega) (by omega) (by omega) (by omega)) nil_P nil_D rfl rfl ⟨rfl, rfl⟩ ⟨by decide, by decide, by decide, by decide⟩ (Nat.le_of_ble_eq_true rfl) d_Cal_partOf_82 ?_
    refine lv_ldc2 (v := lL 3600000) hx hb hown (hk _ kc_Cal_29 _) d_Cal_partOf_85 ?_
    refine ri_ldiv hx hb d_Cal_partOf_88 ?_
    refine ri_l2i hx hb d_Cal_partOf_89 ?_
    exact p_iret hx hb hr hlk d_Cal_partOf_90 (by simp [cPart])
  · refine lv_tableIn (off := 79) (tgt := 91) hx hb d_Cal_partOf_12 (by decide) (by decide) (by decide) (by decide) ?_
    refine lv_iload_n hx hb d_Cal_partOf_91 rfl (lv_at hl 1 rfl) ?_
    refine lv_iload hx hb d_Cal_partOf_92 (lv_at hl 0 rfl) ?_
    refine lv_iload hx hb d_Cal_partOf_94 (lv_at hl 0 rfl) ?_
    refine lv_iload_n hx hb d_Cal_partOf_96 rfl (lv_at hl 1 rfl) ?_
    refine p_callS (rest := [.int (iI (cY (t / 86400000))), .int (iI (t / 86400000))]) hx hb (hml.trans hl.1.symm) hown hk hK k_Cal_33 (ct_Cal_monthOf l D tys (cY (t / 86400000)) (t / 86400000) (by omega) (by omega) (by omega) (by omega)) nil_P nil_D rfl rfl ⟨rfl, rfl⟩ ⟨by decide, by decide, by decide, by decide⟩ (Nat.le_of_ble_eq_true rfl) d_Cal_partOf_97 ?_
    refine p_callS (rest := [.int (iI (t / 86400000))]) hx hb (hml.trans hl.1.symm) hown hk hK k_Cal_37 (ct_Cal_firstDayOf l D tys (cY (t / 86400000)) (cMo (cY (t / 86400000)) (t / 86400000)) (by omega) (by omega) (by omega) (by omega)) nil_P nil_D rfl rfl ⟨rfl, rfl⟩ ⟨by decide, by decide, by decide, by decide⟩ (Nat.le_of_ble_eq_true rfl) d_Cal_partOf_100 ?_
    refine ri_isub hx hb d_Cal_partOf_103 ?_
    refine lv_iconst (v := iI 1) hx hb d_Cal_partOf_104 rfl ?_
    refine ri_iadd hx hb d_Cal_partOf_105 ?_
    exact p_iret hx hb hr hlk d_Cal_partOf_106 (by simp [cPart])
  · refine lv_tableIn (off := 95) (tgt := 107) hx hb d_Cal_partOf_12 (by decide) (by decide) (by decide) (by decide) ?_
    refine lv_iload hx hb d_Cal_partOf_107 (lv_at hl 0 rfl) ?_
    refine lv_iload_n hx hb d_Cal_partOf_109 rfl (lv_at hl 1 rfl) ?_
    refine p_callS (rest := []) hx hb (hml.trans hl.1.symm) hown hk hK k_Cal_33 (ct_Cal_monthOf l D tys (cY (t / 86400000)) (t / 86400000) (by omega) (by omega) (by omega) (by omega)) nil_P nil_D rfl rfl ⟨rfl, rfl⟩ ⟨by decide, by decide, by decide, by decide⟩ (Nat.le_of_ble_eq_true rfl) d_Cal_partOf_110 ?_
    exact p_iret hx hb hr hlk d_Cal_partOf_113 (by simp [cPart])
  · refine lv_tableIn (off := 102) (tgt := 114) hx hb d_Cal_partOf_12 (by decide) (by decide) (by decide) (by decide) ?_
    refine lv_iload hx hb d_Cal_partOf_114 (lv_at hl 0 rfl) ?_
    exact p_iret hx hb hr hlk d_Cal_partOf_116 (by simp [cPart])
  · refine lv_tableOut (tgt := 117) hx hb d_Cal_partOf_12 (by decide) (by decide) ?_
    refine lv_iload_n hx hb d_Cal_partOf_117 rfl (lv_at hl 1 rfl) ?_
    refine p_callS (rest := []) hx hb (hml.trans hl.1.symm) hown hk hK k_Cal_40 (ct_Cal_weekdayOf l D tys (t / 86400000) (by omega) (by omega)) nil_P nil_D rfl rfl ⟨rfl, rfl⟩ ⟨by decide, by decide, by decide, by decide⟩ (Nat.le_of_ble_eq_true rfl) d_Cal_partOf_118 ?_
    refine lv_iconst (v := iI 1) hx hb d_Cal_partOf_121 rfl ?_
    refine ri_iadd hx hb d_Cal_partOf_122 ?_
    exact p_iret hx hb hr hlk d_Cal_partOf_123 (by simp [cPart])
abbrev rm_Rule_momentIn : Room := { frames := 2, cells := 0, slots := 0, locals := 47 }
set_option maxHeartbeats 4000000 in
set_option maxRecDepth 100000 in
theorem ct_Rule_momentIn (l : Launch) (D : va_G) (tys : List (ClassId × FieldType)) (a : Nat) (mo : Int) (wk : Int) (wd : Int) (mi : Int) (y : Int) (gr : rOk mo wk wd mi) (gy1 : 1900 ≤ y) (gy2 : y ≤ 2399) : pMet l y_Rule_momentIn c_Rule_momentIn 5 (some .long) rm_Rule_momentIn D tys [.ref a, .int (iI y)] [(a, .inr (0, [.int (iI mo), .int (iI wk), .int (iI wd), .int (iI mi)]))] (.long (lL (rMom mo wk wd mi y))) := by
  refine pMet_of (by decide) (Nat.le_of_ble_eq_true rfl) ?_
  intro p e s m below meth c hx hb hr hown hlk hml hk hK hP hD ls hl
  have hl : lv_has ls 5 [(0, .ref a), (1, .int (iI y))] := hl
  obtain ⟨r1, r2, r3, r4, r5, r6, r7, r8⟩ := id gr
  refine lv_iload_n hx hb d_Rule_momentIn_0 rfl (lv_at hl 1 rfl) ?_
  refine lv_aload_n hx hb d_Rule_momentIn_1 rfl (lv_at hl 0 rfl) ?_
  refine g_get hx hb hk hown hK hP 0 rfl f_Rule_9 rfl d_Rule_momentIn_2 ?_
  have gF := cFD_b (y := y) (mo := mo) (by omega) (by omega) (by omega) (by omega)
  have gW := cWd_b (cFD y mo)
  have gL := cLen_hi y mo
  have gL2 := cLen_lo y mo
  refine p_callS (rest := []) hx hb (hml.trans hl.1.symm) hown hk hK k_Rule_53 (ct_Cal_firstDayOf l D tys y mo (by omega) (by omega) (by omega) (by omega)) nil_P nil_D rfl rfl ⟨rfl, rfl⟩ ⟨by decide, by decide, by decide, by decide⟩ (Nat.le_of_ble_eq_true rfl) d_Rule_momentIn_5 ?_
  refine lv_istore_n (lv' := [(2, .int (iI (cFD y mo))), (0, .ref a), (1, .int (iI y))]) hx hb d_Rule_momentIn_8 rfl hl (by decide) rfl (fun ls hl => ?_)
  refine lv_aload_n hx hb d_Rule_momentIn_9 rfl (lv_at hl 1 rfl) ?_
  refine g_get hx hb hk hown hK hP 0 rfl f_Rule_18 rfl d_Rule_momentIn_10 ?_
  refine lv_iload_n hx hb d_Rule_momentIn_13 rfl (lv_at hl 0 rfl) ?_
  refine p_callS (rest := [.int (iI wd)]) hx hb (hml.trans hl.1.symm) hown hk hK k_Rule_56 (ct_Cal_weekdayOf l D tys (cFD y mo) (by omega) (by omega)) nil_P nil_D rfl rfl ⟨rfl, rfl⟩ ⟨by decide, by decide, by decide, by decide⟩ (Nat.le_of_ble_eq_true rfl) d_Rule_momentIn_14 ?_
  refine ri_isub hx hb d_Rule_momentIn_17 ?_
  refine lv_bipush (v := iI 7) hx hb d_Rule_momentIn_18 (by decide) ?_
  refine p_callS (rest := []) hx hb (hml.trans hl.1.symm) hown hk hK k_Rule_59 (ct_Math_floorModI l D tys (wd - (cWd (cFD y mo))) 7 (by omega) (by omega) (by omega) (by omega)) nil_P nil_D rfl rfl ⟨rfl, rfl⟩ ⟨by decide, by decide, by decide, by decide⟩ (Nat.le_of_ble_eq_true rfl) d_Rule_momentIn_20 ?_
  refine lv_istore_n (lv' := [(3, .int (iI ((wd - (cWd (cFD y mo))) % 7))), (2, .int (iI (cFD y mo))), (0, .ref a), (1, .int (iI y))]) hx hb d_Rule_momentIn_23 rfl hl (by decide) rfl (fun ls hl => ?_)
  refine lv_iload_n hx hb d_Rule_momentIn_24 rfl (lv_at hl 0 rfl) ?_
  refine lv_bipush (v := iI 7) hx hb d_Rule_momentIn_25 (by decide) ?_
  refine lv_aload_n hx hb d_Rule_momentIn_27 rfl (lv_at hl 2 rfl) ?_
  refine g_get hx hb hk hown hK hP 0 rfl f_Rule_15 rfl d_Rule_momentIn_28 ?_
  refine lv_iconst (v := iI 1) hx hb d_Rule_momentIn_31 rfl ?_
  refine ri_isub hx hb d_Rule_momentIn_32 ?_
  refine ri_imul hx hb d_Rule_momentIn_33 ?_
  refine ri_iadd hx hb d_Rule_momentIn_34 ?_
  refine lv_istore (lv' := [(4, .int (iI (((wd - (cWd (cFD y mo))) % 7) + (7 * (wk - 1))))), (3, .int (iI ((wd - (cWd (cFD y mo))) % 7))), (2, .int (iI (cFD y mo))), (0, .ref a), (1, .int (iI y))]) hx hb d_Rule_momentIn_35 hl (by decide) rfl (fun ls hl => ?_)
  refine lv_iload hx hb d_Rule_momentIn_37 (lv_at hl 0 rfl) ?_
  refine lv_iload_n hx hb d_Rule_momentIn_39 rfl (lv_at hl 4 rfl) ?_
  refine lv_aload_n hx hb d_Rule_momentIn_40 rfl (lv_at hl 3 rfl) ?_
  refine g_get hx hb hk hown hK hP 0 rfl f_Rule_9 rfl d_Rule_momentIn_41 ?_
  refine p_callS (rest := [.int (iI (((wd - (cWd (cFD y mo))) % 7) + (7 * (wk - 1))))]) hx hb (hml.trans hl.1.symm) hown hk hK k_Rule_62 (ct_Cal_lengthOf l D tys y mo (by omega) (by omega) (by omega) (by omega)) nil_P nil_D rfl rfl ⟨rfl, rfl⟩ ⟨by decide, by decide, by decide, by decide⟩ (Nat.le_of_ble_eq_true rfl) d_Rule_momentIn_44 ?_
  refine ri_icmp_lt (tgt := 53) hx hb d_Rule_momentIn_47 (by decide) (fun h47 => ?_) (fun h47 => ?_)
  · refine lv_iload_n hx hb d_Rule_momentIn_53 rfl (lv_at hl 2 rfl) ?_
    refine lv_iload hx hb d_Rule_momentIn_54 (lv_at hl 0 rfl) ?_
    refine ri_iadd hx hb d_Rule_momentIn_56 ?_
    refine ri_i2l hx hb d_Rule_momentIn_57 ?_
    refine lv_ldc2 (v := lL 86400000) hx hb hown (hk _ kc_Rule_65 _) d_Rule_momentIn_58 ?_
    refine ri_lmul hx hb d_Rule_momentIn_61 ?_
    refine lv_aload_n hx hb d_Rule_momentIn_62 rfl (lv_at hl 3 rfl) ?_
    refine g_get hx hb hk hown hK hP 0 rfl f_Rule_21 rfl d_Rule_momentIn_63 ?_
    refine ri_i2l hx hb d_Rule_momentIn_66 ?_
    refine lv_ldc2 (v := lL 60000) hx hb hown (hk _ kc_Rule_24 _) d_Rule_momentIn_67 ?_
    refine ri_lmul hx hb d_Rule_momentIn_70 ?_
    refine ri_ladd hx hb d_Rule_momentIn_71 ?_
    exact p_lret hx hb hr hlk d_Rule_momentIn_72 (by unfold rMom rDay; first | (rw [if_pos (by unfold rK; omega)]; unfold rK; omega) | (rw [if_neg (by unfold rK; omega)]; unfold rK; omega))
  · refine lv_iinc (k := 0) (v := iI (((wd - (cWd (cFD y mo))) % 7) + (7 * (wk - 1)) - 7)) (lv' := [(4, .int (iI (((wd - (cWd (cFD y mo))) % 7) + (7 * (wk - 1)) - 7))), (3, .int (iI ((wd - (cWd (cFD y mo))) % 7))), (2, .int (iI (cFD y mo))), (0, .ref a), (1, .int (iI y))]) hx hb d_Rule_momentIn_50 hl rfl ((iI_add _ _).trans (congrArg iI (by omega))) (by decide) rfl (fun ls hl => ?_)
    refine lv_iload_n hx hb d_Rule_momentIn_53 rfl (lv_at hl 2 rfl) ?_
    refine lv_iload hx hb d_Rule_momentIn_54 (lv_at hl 0 rfl) ?_
    refine ri_iadd hx hb d_Rule_momentIn_56 ?_
    refine ri_i2l hx hb d_Rule_momentIn_57 ?_
    refine lv_ldc2 (v := lL 86400000) hx hb hown (hk _ kc_Rule_65 _) d_Rule_momentIn_58 ?_
    refine ri_lmul hx hb d_Rule_momentIn_61 ?_
    refine lv_aload_n hx hb d_Rule_momentIn_62 rfl (lv_at hl 3 rfl) ?_
    refine g_get hx hb hk hown hK hP 0 rfl f_Rule_21 rfl d_Rule_momentIn_63 ?_
    refine ri_i2l hx hb d_Rule_momentIn_66 ?_
    refine lv_ldc2 (v := lL 60000) hx hb hown (hk _ kc_Rule_24 _) d_Rule_momentIn_67 ?_
    refine ri_lmul hx hb d_Rule_momentIn_70 ?_
    refine ri_ladd hx hb d_Rule_momentIn_71 ?_
    exact p_lret hx hb hr hlk d_Rule_momentIn_72 (by unfold rMom rDay; first | (rw [if_pos (by unfold rK; omega)]; unfold rK; omega) | (rw [if_neg (by unfold rK; omega)]; unfold rK; omega))
abbrev rm_Rule_lastUpTo : Room := { frames := 3, cells := 0, slots := 0, locals := 71 }
set_option maxHeartbeats 4000000 in
set_option maxRecDepth 100000 in
theorem ct_Rule_lastUpTo (l : Launch) (D : va_G) (tys : List (ClassId × FieldType)) (a : Nat) (mo : Int) (wk : Int) (wd : Int) (mi : Int) (t : Int) (sh : Int) (gr : rOk mo wk wd mi) (gt1 : -100000000000000 ≤ t) (gt2 : t ≤ 100000000000000) (gs1 : -2000 ≤ sh) (gs2 : sh ≤ 2000) (gc1 : -31536000000 ≤ t + sh * 60000) (gc2 : t + sh * 60000 ≤ 10540000000000) : pMet l y_Rule_lastUpTo c_Rule_lastUpTo 7 (some .long) rm_Rule_lastUpTo D tys [.ref a, .long (lL t), .int (iI sh)] [(a, .inr (0, [.int (iI mo), .int (iI wk), .int (iI wd), .int (iI mi)]))] (.long (lL (rLast mo wk wd mi t sh))) := by
  refine pMet_of (by decide) (Nat.le_of_ble_eq_true rfl) ?_
  intro p e s m below meth c hx hb hr hown hlk hml hk hK hP hD ls hl
  have hl : lv_has ls 7 [(0, .ref a), (1, .long (lL t)), (3, .int (iI sh))] := hl
  refine lv_lload_n hx hb d_Rule_lastUpTo_0 rfl (lv_at hl 1 rfl) ?_
  refine lv_iload_n hx hb d_Rule_lastUpTo_1 rfl (lv_at hl 2 rfl) ?_
  refine ri_i2l hx hb d_Rule_lastUpTo_2 ?_
  refine lv_ldc2 (v := lL 60000) hx hb hown (hk _ kc_Rule_24 _) d_Rule_lastUpTo_3 ?_
  refine ri_lmul hx hb d_Rule_lastUpTo_6 ?_
  refine ri_ladd hx hb d_Rule_lastUpTo_7 ?_
  refine lv_lstore (lv' := [(4, .long (lL (t + (sh * 60000)))), (0, .ref a), (1, .long (lL t)), (3, .int (iI sh))]) hx hb d_Rule_lastUpTo_8 hl (by decide) rfl (fun ls hl => ?_)
  refine lv_lload hx hb d_Rule_lastUpTo_10 (lv_at hl 0 rfl) ?_
  refine p_callS (rest := []) hx hb (hml.trans hl.1.symm) hown hk hK k_Rule_26 (ct_Cal_dayAt l D tys (t + (sh * 60000)) (by omega) (by omega)) nil_P nil_D rfl rfl ⟨rfl, rfl⟩ ⟨by decide, by decide, by decide, by decide⟩ (Nat.le_of_ble_eq_true rfl) d_Rule_lastUpTo_12 ?_
  have gY := cY_b (d := (t + sh * 60000) / 86400000) (by omega) (by omega)
  refine p_callS (rest := []) hx hb (hml.trans hl.1.symm) hown hk hK k_Rule_32 (ct_Cal_yearOf l D tys ((t + (sh * 60000)) / 86400000) (by omega) (by omega)) nil_P nil_D rfl rfl ⟨rfl, rfl⟩ ⟨by decide, by decide, by decide, by decide⟩ (Nat.le_of_ble_eq_true rfl) d_Rule_lastUpTo_15 ?_
  refine lv_sipush (v := iI 2299) hx hb d_Rule_lastUpTo_18 (by decide) ?_
  refine p_callS (rest := []) hx hb (hml.trans hl.1.symm) hown hk hK k_Rule_36 (ct_Math_minI l D tys (cY ((t + (sh * 60000)) / 86400000)) 2299 (by omega) (by omega) (by omega) (by omega)) nil_P nil_D rfl rfl ⟨rfl, rfl⟩ ⟨by decide, by decide, by decide, by decide⟩ (Nat.le_of_ble_eq_true rfl) d_Rule_lastUpTo_21 ?_
  refine lv_istore (lv' := [(6, .int (iI (min (cY ((t + (sh * 60000)) / 86400000)) 2299))), (4, .long (lL (t + (sh * 60000)))), (0, .ref a), (1, .long (lL t)), (3, .int (iI sh))]) hx hb d_Rule_lastUpTo_24 hl (by decide) rfl (fun ls hl => ?_)
  refine lv_aload_n hx hb d_Rule_lastUpTo_26 rfl (lv_at hl 2 rfl) ?_
  refine lv_iload hx hb d_Rule_lastUpTo_27 (lv_at hl 0 rfl) ?_
  refine p_callV (rest := []) (q0 := 0) hx hb (hml.trans hl.1.symm) hown hk hK k_Rule_42 (ct_Rule_momentIn l D tys a mo wk wd mi (min (cY ((t + (sh * 60000)) / 86400000)) 2299) gr (by omega) (by omega)) (w_subP (is := [0]) hP rfl) (w_subD (is := [0]) hD rfl rfl) rfl rfl rfl rfl ⟨rfl, rfl⟩ ⟨by decide, by decide, by decide, by decide⟩ (Nat.le_of_ble_eq_true rfl) d_Rule_lastUpTo_29 ?_
  have gM := rMom_bd gr (y := min (cY ((t + sh * 60000) / 86400000)) 2299) (by omega) (by omega)
  refine lv_lload hx hb d_Rule_lastUpTo_32 (lv_at hl 1 rfl) ?_
  refine ri_lcmp_le (tgt := 41) hx hb d_Rule_lastUpTo_34 d_Rule_lastUpTo_35 (by decide) (fun h34 => ?_) (fun h34 => ?_)
  · refine lv_iload hx hb d_Rule_lastUpTo_41 (lv_at hl 0 rfl) ?_
    refine lv_sipush (v := iI 1970) hx hb d_Rule_lastUpTo_43 (by decide) ?_
    refine ri_icmp_ge (tgt := 55) hx hb d_Rule_lastUpTo_46 (by decide) (fun h46 => ?_) (fun h46 => ?_)
    · refine lv_aload_n hx hb d_Rule_lastUpTo_55 rfl (lv_at hl 2 rfl) ?_
      refine lv_iload hx hb d_Rule_lastUpTo_56 (lv_at hl 0 rfl) ?_
      refine p_callV (rest := []) (q0 := 0) hx hb (hml.trans hl.1.symm) hown hk hK k_Rule_42 (ct_Rule_momentIn l D tys a mo wk wd mi (min (cY ((t + (sh * 60000)) / 86400000)) 2299) gr (by omega) (by omega)) (w_subP (is := [0]) hP rfl) (w_subD (is := [0]) hD rfl rfl) rfl rfl rfl rfl ⟨rfl, rfl⟩ ⟨by decide, by decide, by decide, by decide⟩ (Nat.le_of_ble_eq_true rfl) d_Rule_lastUpTo_58 ?_
      refine lv_iload_n hx hb d_Rule_lastUpTo_61 rfl (lv_at hl 4 rfl) ?_
      refine ri_i2l hx hb d_Rule_lastUpTo_62 ?_
      refine lv_ldc2 (v := lL 60000) hx hb hown (hk _ kc_Rule_24 _) d_Rule_lastUpTo_63 ?_
      refine ri_lmul hx hb d_Rule_lastUpTo_66 ?_
      refine ri_lsub hx hb d_Rule_lastUpTo_67 ?_
      exact p_lret hx hb hr hlk d_Rule_lastUpTo_68 (by simp only [rLast]; first | (rw [if_pos (show rMom mo wk wd mi (min (cY ((t + sh * 60000) / 86400000)) 2299) > (t + sh * 60000) by omega), if_pos (show (min (cY ((t + sh * 60000) / 86400000)) 2299) - 1 < 1970 by omega)]; done) | (rw [if_pos (show rMom mo wk wd mi (min (cY ((t + sh * 60000) / 86400000)) 2299) > (t + sh * 60000) by omega), if_neg (show ¬ (min (cY ((t + sh * 60000) / 86400000)) 2299) - 1 < 1970 by omega)]; done) | (rw [if_neg (show ¬ rMom mo wk wd mi (min (cY ((t + sh * 60000) / 86400000)) 2299) > (t + sh * 60000) by omega), if_pos (show (min (cY ((t + sh * 60000) / 86400000)) 2299) < 1970 by omega)]; done) | (rw [if_neg (show ¬ rMom mo wk wd mi (min (cY ((t + sh * 60000) / 86400000)) 2299) > (t + sh * 60000) by omega), if_neg (show ¬ (min (cY ((t + sh * 60000) / 86400000)) 2299) < 1970 by omega)]; done))
    · refine lv_ldc2 (v := lL (-1000000000000000)) hx hb hown (hk _ kc_Rule_46 _) d_Rule_lastUpTo_49 ?_
      refine lv_goto (tgt := 68) hx hb d_Rule_lastUpTo_52 (by decide) ?_
      exact p_lret hx hb hr hlk d_Rule_lastUpTo_68 (by simp only [rLast]; first | (rw [if_pos (show rMom mo wk wd mi (min (cY ((t + sh * 60000) / 86400000)) 2299) > (t + sh * 60000) by omega), if_pos (show (min (cY ((t + sh * 60000) / 86400000)) 2299) - 1 < 1970 by omega)]; done) | (rw [if_pos (show rMom mo wk wd mi (min (cY ((t + sh * 60000) / 86400000)) 2299) > (t + sh * 60000) by omega), if_neg (show ¬ (min (cY ((t + sh * 60000) / 86400000)) 2299) - 1 < 1970 by omega)]; done) | (rw [if_neg (show ¬ rMom mo wk wd mi (min (cY ((t + sh * 60000) / 86400000)) 2299) > (t + sh * 60000) by omega), if_pos (show (min (cY ((t + sh * 60000) / 86400000)) 2299) < 1970 by omega)]; done) | (rw [if_neg (show ¬ rMom mo wk wd mi (min (cY ((t + sh * 60000) / 86400000)) 2299) > (t + sh * 60000) by omega), if_neg (show ¬ (min (cY ((t + sh * 60000) / 86400000)) 2299) < 1970 by omega)]; done))
  · refine lv_iinc (k := 0) (v := iI (min (cY ((t + (sh * 60000)) / 86400000)) 2299 - 1)) (lv' := [(6, .int (iI (min (cY ((t + (sh * 60000)) / 86400000)) 2299 - 1))), (4, .long (lL (t + (sh * 60000)))), (0, .ref a), (1, .long (lL t)), (3, .int (iI sh))]) hx hb d_Rule_lastUpTo_38 hl rfl ((iI_add _ _).trans (congrArg iI (by omega))) (by decide) rfl (fun ls hl => ?_)
    refine lv_iload hx hb d_Rule_lastUpTo_41 (lv_at hl 0 rfl) ?_
    refine lv_sipush (v := iI 1970) hx hb d_Rule_lastUpTo_43 (by decide) ?_
    refine ri_icmp_ge (tgt := 55) hx hb d_Rule_lastUpTo_46 (by decide) (fun h46 => ?_) (fun h46 => ?_)
    · refine lv_aload_n hx hb d_Rule_lastUpTo_55 rfl (lv_at hl 2 rfl) ?_
      refine lv_iload hx hb d_Rule_lastUpTo_56 (lv_at hl 0 rfl) ?_
      refine p_callV (rest := []) (q0 := 0) hx hb (hml.trans hl.1.symm) hown hk hK k_Rule_42 (ct_Rule_momentIn l D tys a mo wk wd mi (min (cY ((t + (sh * 60000)) / 86400000)) 2299 - 1) gr (by omega) (by omega)) (w_subP (is := [0]) hP rfl) (w_subD (is := [0]) hD rfl rfl) rfl rfl rfl rfl ⟨rfl, rfl⟩ ⟨by decide, by decide, by decide, by decide⟩ (Nat.le_of_ble_eq_true rfl) d_Rule_lastUpTo_58 ?_
      refine lv_iload_n hx hb d_Rule_lastUpTo_61 rfl (lv_at hl 4 rfl) ?_
      refine ri_i2l hx hb d_Rule_lastUpTo_62 ?_
      refine lv_ldc2 (v := lL 60000) hx hb hown (hk _ kc_Rule_24 _) d_Rule_lastUpTo_63 ?_
      refine ri_lmul hx hb d_Rule_lastUpTo_66 ?_
      refine ri_lsub hx hb d_Rule_lastUpTo_67 ?_
      exact p_lret hx hb hr hlk d_Rule_lastUpTo_68 (by simp only [rLast]; first | (rw [if_pos (show rMom mo wk wd mi (min (cY ((t + sh * 60000) / 86400000)) 2299) > (t + sh * 60000) by omega), if_pos (show (min (cY ((t + sh * 60000) / 86400000)) 2299) - 1 < 1970 by omega)]; done) | (rw [if_pos (show rMom mo wk wd mi (min (cY ((t + sh * 60000) / 86400000)) 2299) > (t + sh * 60000) by omega), if_neg (show ¬ (min (cY ((t + sh * 60000) / 86400000)) 2299) - 1 < 1970 by omega)]; done) | (rw [if_neg (show ¬ rMom mo wk wd mi (min (cY ((t + sh * 60000) / 86400000)) 2299) > (t + sh * 60000) by omega), if_pos (show (min (cY ((t + sh * 60000) / 86400000)) 2299) < 1970 by omega)]; done) | (rw [if_neg (show ¬ rMom mo wk wd mi (min (cY ((t + sh * 60000) / 86400000)) 2299) > (t + sh * 60000) by omega), if_neg (show ¬ (min (cY ((t + sh * 60000) / 86400000)) 2299) < 1970 by omega)]; done))
    · refine lv_ldc2 (v := lL (-1000000000000000)) hx hb hown (hk _ kc_Rule_46 _) d_Rule_lastUpTo_49 ?_
      refine lv_goto (tgt := 68) hx hb d_Rule_lastUpTo_52 (by decide) ?_
      exact p_lret hx hb hr hlk d_Rule_lastUpTo_68 (by simp only [rLast]; first | (rw [if_pos (show rMom mo wk wd mi (min (cY ((t + sh * 60000) / 86400000)) 2299) > (t + sh * 60000) by omega), if_pos (show (min (cY ((t + sh * 60000) / 86400000)) 2299) - 1 < 1970 by omega)]; done) | (rw [if_pos (show rMom mo wk wd mi (min (cY ((t + sh * 60000) / 86400000)) 2299) > (t + sh * 60000) by omega), if_neg (show ¬ (min (cY ((t + sh * 60000) / 86400000)) 2299) - 1 < 1970 by omega)]; done) | (rw [if_neg (show ¬ rMom mo wk wd mi (min (cY ((t + sh * 60000) / 86400000)) 2299) > (t + sh * 60000) by omega), if_pos (show (min (cY ((t + sh * 60000) / 86400000)) 2299) < 1970 by omega)]; done) | (rw [if_neg (show ¬ rMom mo wk wd mi (min (cY ((t + sh * 60000) / 86400000)) 2299) > (t + sh * 60000) by omega), if_neg (show ¬ (min (cY ((t + sh * 60000) / 86400000)) 2299) < 1970 by omega)]; done))
abbrev rm_Rule_firstBehind : Room := { frames := 3, cells := 0, slots := 0, locals := 71 }
set_option maxHeartbeats 4000000 in
set_option maxRecDepth 100000 in
theorem ct_Rule_firstBehind (l : Launch) (D : va_G) (tys : List (ClassId × FieldType)) (a : Nat) (mo : Int) (wk : Int) (wd : Int) (mi : Int) (t : Int) (sh : Int) (gr : rOk mo wk wd mi) (gt1 : -100000000000000 ≤ t) (gt2 : t ≤ 100000000000000) (gs1 : -2000 ≤ sh) (gs2 : sh ≤ 2000) (gc1 : -31536000000 ≤ t + sh * 60000) (gc2 : t + sh * 60000 ≤ 10540000000000) : pMet l y_Rule_firstBehind c_Rule_firstBehind 7 (some .long) rm_Rule_firstBehind D tys [.ref a, .long (lL t), .int (iI sh)] [(a, .inr (0, [.int (iI mo), .int (iI wk), .int (iI wd), .int (iI mi)]))] (.long (lL (rNext mo wk wd mi t sh))) := by
  refine pMet_of (by decide) (Nat.le_of_ble_eq_true rfl) ?_
  intro p e s m below meth c hx hb hr hown hlk hml hk hK hP hD ls hl
  have hl : lv_has ls 7 [(0, .ref a), (1, .long (lL t)), (3, .int (iI sh))] := hl
  refine lv_lload_n hx hb d_Rule_firstBehind_0 rfl (lv_at hl 1 rfl) ?_
  refine lv_iload_n hx hb d_Rule_firstBehind_1 rfl (lv_at hl 2 rfl) ?_
  refine ri_i2l hx hb d_Rule_firstBehind_2 ?_
  refine lv_ldc2 (v := lL 60000) hx hb hown (hk _ kc_Rule_24 _) d_Rule_firstBehind_3 ?_
  refine ri_lmul hx hb d_Rule_firstBehind_6 ?_
  refine ri_ladd hx hb d_Rule_firstBehind_7 ?_
  refine lv_lstore (lv' := [(4, .long (lL (t + (sh * 60000)))), (0, .ref a), (1, .long (lL t)), (3, .int (iI sh))]) hx hb d_Rule_firstBehind_8 hl (by decide) rfl (fun ls hl => ?_)
  refine lv_lload hx hb d_Rule_firstBehind_10 (lv_at hl 0 rfl) ?_
  refine p_callS (rest := []) hx hb (hml.trans hl.1.symm) hown hk hK k_Rule_26 (ct_Cal_dayAt l D tys (t + (sh * 60000)) (by omega) (by omega)) nil_P nil_D rfl rfl ⟨rfl, rfl⟩ ⟨by decide, by decide, by decide, by decide⟩ (Nat.le_of_ble_eq_true rfl) d_Rule_firstBehind_12 ?_
  have gY := cY_b (d := (t + sh * 60000) / 86400000) (by omega) (by omega)
  refine p_callS (rest := []) hx hb (hml.trans hl.1.symm) hown hk hK k_Rule_32 (ct_Cal_yearOf l D tys ((t + (sh * 60000)) / 86400000) (by omega) (by omega)) nil_P nil_D rfl rfl ⟨rfl, rfl⟩ ⟨by decide, by decide, by decide, by decide⟩ (Nat.le_of_ble_eq_true rfl) d_Rule_firstBehind_15 ?_
  refine lv_sipush (v := iI 1970) hx hb d_Rule_firstBehind_18 (by decide) ?_
  refine p_callS (rest := []) hx hb (hml.trans hl.1.symm) hown hk hK k_Rule_48 (ct_Math_maxI l D tys (cY ((t + (sh * 60000)) / 86400000)) 1970 (by omega) (by omega) (by omega) (by omega)) nil_P nil_D rfl rfl ⟨rfl, rfl⟩ ⟨by decide, by decide, by decide, by decide⟩ (Nat.le_of_ble_eq_true rfl) d_Rule_firstBehind_21 ?_
  refine lv_istore (lv' := [(6, .int (iI (max (cY ((t + (sh * 60000)) / 86400000)) 1970))), (4, .long (lL (t + (sh * 60000)))), (0, .ref a), (1, .long (lL t)), (3, .int (iI sh))]) hx hb d_Rule_firstBehind_24 hl (by decide) rfl (fun ls hl => ?_)
  refine lv_aload_n hx hb d_Rule_firstBehind_26 rfl (lv_at hl 2 rfl) ?_
  refine lv_iload hx hb d_Rule_firstBehind_27 (lv_at hl 0 rfl) ?_
  refine p_callV (rest := []) (q0 := 0) hx hb (hml.trans hl.1.symm) hown hk hK k_Rule_42 (ct_Rule_momentIn l D tys a mo wk wd mi (max (cY ((t + (sh * 60000)) / 86400000)) 1970) gr (by omega) (by omega)) (w_subP (is := [0]) hP rfl) (w_subD (is := [0]) hD rfl rfl) rfl rfl rfl rfl ⟨rfl, rfl⟩ ⟨by decide, by decide, by decide, by decide⟩ (Nat.le_of_ble_eq_true rfl) d_Rule_firstBehind_29 ?_
  have gM := rMom_bd gr (y := max (cY ((t + sh * 60000) / 86400000)) 1970) (by omega) (by omega)
  refine lv_lload hx hb d_Rule_firstBehind_32 (lv_at hl 1 rfl) ?_
  refine ri_lcmp_gt (tgt := 41) hx hb d_Rule_firstBehind_34 d_Rule_firstBehind_35 (by decide) (fun h34 => ?_) (fun h34 => ?_)
  · refine lv_iload hx hb d_Rule_firstBehind_41 (lv_at hl 0 rfl) ?_
    refine lv_sipush (v := iI 2299) hx hb d_Rule_firstBehind_43 (by decide) ?_
    refine ri_icmp_le (tgt := 55) hx hb d_Rule_firstBehind_46 (by decide) (fun h46 => ?_) (fun h46 => ?_)
    · refine lv_aload_n hx hb d_Rule_firstBehind_55 rfl (lv_at hl 2 rfl) ?_
      refine lv_iload hx hb d_Rule_firstBehind_56 (lv_at hl 0 rfl) ?_
      refine p_callV (rest := []) (q0 := 0) hx hb (hml.trans hl.1.symm) hown hk hK k_Rule_42 (ct_Rule_momentIn l D tys a mo wk wd mi (max (cY ((t + (sh * 60000)) / 86400000)) 1970) gr (by omega) (by omega)) (w_subP (is := [0]) hP rfl) (w_subD (is := [0]) hD rfl rfl) rfl rfl rfl rfl ⟨rfl, rfl⟩ ⟨by decide, by decide, by decide, by decide⟩ (Nat.le_of_ble_eq_true rfl) d_Rule_firstBehind_58 ?_
      refine lv_iload_n hx hb d_Rule_firstBehind_61 rfl (lv_at hl 4 rfl) ?_
      refine ri_i2l hx hb d_Rule_firstBehind_62 ?_
      refine lv_ldc2 (v := lL 60000) hx hb hown (hk _ kc_Rule_24 _) d_Rule_firstBehind_63 ?_
      refine ri_lmul hx hb d_Rule_firstBehind_66 ?_
      refine ri_lsub hx hb d_Rule_firstBehind_67 ?_
      exact p_lret hx hb hr hlk d_Rule_firstBehind_68 (by simp only [rNext]; first | (rw [if_pos (show rMom mo wk wd mi (max (cY ((t + sh * 60000) / 86400000)) 1970) ≤ (t + sh * 60000) by omega), if_pos (show (max (cY ((t + sh * 60000) / 86400000)) 1970) + 1 > 2299 by omega)]; done) | (rw [if_pos (show rMom mo wk wd mi (max (cY ((t + sh * 60000) / 86400000)) 1970) ≤ (t + sh * 60000) by omega), if_neg (show ¬ (max (cY ((t + sh * 60000) / 86400000)) 1970) + 1 > 2299 by omega)]; done) | (rw [if_neg (show ¬ rMom mo wk wd mi (max (cY ((t + sh * 60000) / 86400000)) 1970) ≤ (t + sh * 60000) by omega), if_pos (show (max (cY ((t + sh * 60000) / 86400000)) 1970) > 2299 by omega)]; done) | (rw [if_neg (show ¬ rMom mo wk wd mi (max (cY ((t + sh * 60000) / 86400000)) 1970) ≤ (t + sh * 60000) by omega), if_neg (show ¬ (max (cY ((t + sh * 60000) / 86400000)) 1970) > 2299 by omega)]; done))
    · refine lv_ldc2 (v := lL 1000000000000000) hx hb hown (hk _ kc_Rule_51 _) d_Rule_firstBehind_49 ?_
      refine lv_goto (tgt := 68) hx hb d_Rule_firstBehind_52 (by decide) ?_
      exact p_lret hx hb hr hlk d_Rule_firstBehind_68 (by simp only [rNext]; first | (rw [if_pos (show rMom mo wk wd mi (max (cY ((t + sh * 60000) / 86400000)) 1970) ≤ (t + sh * 60000) by omega), if_pos (show (max (cY ((t + sh * 60000) / 86400000)) 1970) + 1 > 2299 by omega)]; done) | (rw [if_pos (show rMom mo wk wd mi (max (cY ((t + sh * 60000) / 86400000)) 1970) ≤ (t + sh * 60000) by omega), if_neg (show ¬ (max (cY ((t + sh * 60000) / 86400000)) 1970) + 1 > 2299 by omega)]; done) | (rw [if_neg (show ¬ rMom mo wk wd mi (max (cY ((t + sh * 60000) / 86400000)) 1970) ≤ (t + sh * 60000) by omega), if_pos (show (max (cY ((t + sh * 60000) / 86400000)) 1970) > 2299 by omega)]; done) | (rw [if_neg (show ¬ rMom mo wk wd mi (max (cY ((t + sh * 60000) / 86400000)) 1970) ≤ (t + sh * 60000) by omega), if_neg (show ¬ (max (cY ((t + sh * 60000) / 86400000)) 1970) > 2299 by omega)]; done))
  · refine lv_iinc (k := 0) (v := iI (max (cY ((t + (sh * 60000)) / 86400000)) 1970 + 1)) (lv' := [(6, .int (iI (max (cY ((t + (sh * 60000)) / 86400000)) 1970 + 1))), (4, .long (lL (t + (sh * 60000)))), (0, .ref a), (1, .long (lL t)), (3, .int (iI sh))]) hx hb d_Rule_firstBehind_38 hl rfl (iI_add _ _) (by decide) rfl (fun ls hl => ?_)
    refine lv_iload hx hb d_Rule_firstBehind_41 (lv_at hl 0 rfl) ?_
    refine lv_sipush (v := iI 2299) hx hb d_Rule_firstBehind_43 (by decide) ?_
    refine ri_icmp_le (tgt := 55) hx hb d_Rule_firstBehind_46 (by decide) (fun h46 => ?_) (fun h46 => ?_)
    · refine lv_aload_n hx hb d_Rule_firstBehind_55 rfl (lv_at hl 2 rfl) ?_
      refine lv_iload hx hb d_Rule_firstBehind_56 (lv_at hl 0 rfl) ?_
      refine p_callV (rest := []) (q0 := 0) hx hb (hml.trans hl.1.symm) hown hk hK k_Rule_42 (ct_Rule_momentIn l D tys a mo wk wd mi (max (cY ((t + (sh * 60000)) / 86400000)) 1970 + 1) gr (by omega) (by omega)) (w_subP (is := [0]) hP rfl) (w_subD (is := [0]) hD rfl rfl) rfl rfl rfl rfl ⟨rfl, rfl⟩ ⟨by decide, by decide, by decide, by decide⟩ (Nat.le_of_ble_eq_true rfl) d_Rule_firstBehind_58 ?_
      refine lv_iload_n hx hb d_Rule_firstBehind_61 rfl (lv_at hl 4 rfl) ?_
      refine ri_i2l hx hb d_Rule_firstBehind_62 ?_
      refine lv_ldc2 (v := lL 60000) hx hb hown (hk _ kc_Rule_24 _) d_Rule_firstBehind_63 ?_
      refine ri_lmul hx hb d_Rule_firstBehind_66 ?_
      refine ri_lsub hx hb d_Rule_firstBehind_67 ?_
      exact p_lret hx hb hr hlk d_Rule_firstBehind_68 (by simp only [rNext]; first | (rw [if_pos (show rMom mo wk wd mi (max (cY ((t + sh * 60000) / 86400000)) 1970) ≤ (t + sh * 60000) by omega), if_pos (show (max (cY ((t + sh * 60000) / 86400000)) 1970) + 1 > 2299 by omega)]; done) | (rw [if_pos (show rMom mo wk wd mi (max (cY ((t + sh * 60000) / 86400000)) 1970) ≤ (t + sh * 60000) by omega), if_neg (show ¬ (max (cY ((t + sh * 60000) / 86400000)) 1970) + 1 > 2299 by omega)]; done) | (rw [if_neg (show ¬ rMom mo wk wd mi (max (cY ((t + sh * 60000) / 86400000)) 1970) ≤ (t + sh * 60000) by omega), if_pos (show (max (cY ((t + sh * 60000) / 86400000)) 1970) > 2299 by omega)]; done) | (rw [if_neg (show ¬ rMom mo wk wd mi (max (cY ((t + sh * 60000) / 86400000)) 1970) ≤ (t + sh * 60000) by omega), if_neg (show ¬ (max (cY ((t + sh * 60000) / 86400000)) 1970) > 2299 by omega)]; done))
    · refine lv_ldc2 (v := lL 1000000000000000) hx hb hown (hk _ kc_Rule_51 _) d_Rule_firstBehind_49 ?_
      refine lv_goto (tgt := 68) hx hb d_Rule_firstBehind_52 (by decide) ?_
      exact p_lret hx hb hr hlk d_Rule_firstBehind_68 (by simp only [rNext]; first | (rw [if_pos (show rMom mo wk wd mi (max (cY ((t + sh * 60000) / 86400000)) 1970) ≤ (t + sh * 60000) by omega), if_pos (show (max (cY ((t + sh * 60000) / 86400000)) 1970) + 1 > 2299 by omega)]; done) | (rw [if_pos (show rMom mo wk wd mi (max (cY ((t + sh * 60000) / 86400000)) 1970) ≤ (t + sh * 60000) by omega), if_neg (show ¬ (max (cY ((t + sh * 60000) / 86400000)) 1970) + 1 > 2299 by omega)]; done) | (rw [if_neg (show ¬ rMom mo wk wd mi (max (cY ((t + sh * 60000) / 86400000)) 1970) ≤ (t + sh * 60000) by omega), if_pos (show (max (cY ((t + sh * 60000) / 86400000)) 1970) > 2299 by omega)]; done) | (rw [if_neg (show ¬ rMom mo wk wd mi (max (cY ((t + sh * 60000) / 86400000)) 1970) ≤ (t + sh * 60000) by omega), if_neg (show ¬ (max (cY ((t + sh * 60000) / 86400000)) 1970) > 2299 by omega)]; done))
