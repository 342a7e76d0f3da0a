/-! Contracts: the reference's calendar and reading. By program (wip/whole/m_ref.py). -/
abbrev rm_Ref_leap : Room := { frames := 0, cells := 0, slots := 0, locals := 0 }
set_option maxHeartbeats 4000000 in
set_option maxRecDepth 100000 in
theorem ct_Ref_leap (l : Launch) (D : va_G) (tys : List (ClassId × FieldType)) (y : Int) (gy1 : 1900 ≤ y) (gy2 : y ≤ 2400) : pMet l y_Ref_leap c_Ref_leap 1 (some .boolean) rm_Ref_leap D tys [.int (iI y)] [] (.int (iI (bI (cLeap y)))) := by
  refine pMet_of (by decide) (Nat.le_of_ble_eq_true rfl) ?_
  intro p e s m below meth c hx hb hr hown hlk hml hk hK hP hD ls hl
  have hl : lv_has ls 1 [(0, .int (iI y))] := hl
  refine lv_iload_n hx hb d_Ref_leap_0 rfl (lv_at hl 0 rfl) ?_
  refine lv_iconst (v := iI 4) hx hb d_Ref_leap_1 rfl ?_
  refine ri_irem hx hb d_Ref_leap_2 ?_
  refine ri_if_ne (tgt := 13) hx hb d_Ref_leap_3 (by decide) (fun h3 => ?_) (fun h3 => ?_)
  · refine lv_iload_n hx hb d_Ref_leap_13 rfl (lv_at hl 0 rfl) ?_
    refine lv_sipush (v := iI 400) hx hb d_Ref_leap_14 (by decide) ?_
    refine ri_irem hx hb d_Ref_leap_17 ?_
    refine ri_if_ne (tgt := 25) hx hb d_Ref_leap_18 (by decide) (fun h18 => ?_) (fun h18 => ?_)
    · refine lv_iconst (v := iI 0) hx hb d_Ref_leap_25 rfl ?_
      exact p_zret hx hb hr hlk d_Ref_leap_26 (by first | (rw [show cLeap y = true from by simp [cLeap]; omega]; rfl) | (rw [show cLeap y = false from by simp [cLeap]; omega]; rfl)) (by omega)
    · refine lv_iconst (v := iI 1) hx hb d_Ref_leap_21 rfl ?_
      refine lv_goto (tgt := 26) hx hb d_Ref_leap_22 (by decide) ?_
      exact p_zret hx hb hr hlk d_Ref_leap_26 (by first | (rw [show cLeap y = true from by simp [cLeap]; omega]; rfl) | (rw [show cLeap y = false from by simp [cLeap]; omega]; rfl)) (by omega)
  · refine lv_iload_n hx hb d_Ref_leap_6 rfl (lv_at hl 0 rfl) ?_
    refine lv_bipush (v := iI 100) hx hb d_Ref_leap_7 (by decide) ?_
    refine ri_irem hx hb d_Ref_leap_9 ?_
    refine ri_if_ne (tgt := 21) hx hb d_Ref_leap_10 (by decide) (fun h10 => ?_) (fun h10 => ?_)
    · refine lv_iconst (v := iI 1) hx hb d_Ref_leap_21 rfl ?_
      refine lv_goto (tgt := 26) hx hb d_Ref_leap_22 (by decide) ?_
      exact p_zret hx hb hr hlk d_Ref_leap_26 (by first | (rw [show cLeap y = true from by simp [cLeap]; omega]; rfl) | (rw [show cLeap y = false from by simp [cLeap]; omega]; rfl)) (by omega)
    · refine lv_iload_n hx hb d_Ref_leap_13 rfl (lv_at hl 0 rfl) ?_
      refine lv_sipush (v := iI 400) hx hb d_Ref_leap_14 (by decide) ?_
      refine ri_irem hx hb d_Ref_leap_17 ?_
      refine ri_if_ne (tgt := 25) hx hb d_Ref_leap_18 (by decide) (fun h18 => ?_) (fun h18 => ?_)
      · refine lv_iconst (v := iI 0) hx hb d_Ref_leap_25 rfl ?_
        exact p_zret hx hb hr hlk d_Ref_leap_26 (by first | (rw [show cLeap y = true from by simp [cLeap]; omega]; rfl) | (rw [show cLeap y = false from by simp [cLeap]; omega]; rfl)) (by omega)
      · refine lv_iconst (v := iI 1) hx hb d_Ref_leap_21 rfl ?_
        refine lv_goto (tgt := 26) hx hb d_Ref_leap_22 (by decide) ?_
        exact p_zret hx hb hr hlk d_Ref_leap_26 (by first | (rw [show cLeap y = true from by simp [cLeap]; omega]; rfl) | (rw [show cLeap y = false from by simp [cLeap]; omega]; rfl)) (by omega)
abbrev rm_Ref_length : Room := { frames := 1, cells := 0, slots := 0, locals := 20 }
set_option maxHeartbeats 4000000 in
set_option maxRecDepth 100000 in
theorem ct_Ref_length (l : Launch) (D : va_G) (tys : List (ClassId × FieldType)) (y : Int) (mo : Int) (gy1 : 1900 ≤ y) (gy2 : y ≤ 2400) (gm1 : 1 ≤ mo) (gm2 : mo ≤ 12) : pMet l y_Ref_length c_Ref_length 2 (some .int) rm_Ref_length D tys [.int (iI y), .int (iI mo)] [] (.int (iI (cLen y mo))) := by
  refine pMet_of (by decide) (Nat.le_of_ble_eq_true rfl) ?_
  intro p e s m below meth c hx hb hr hown hlk hml hk hK hP hD ls hl
  have hl : lv_has ls 2 [(0, .int (iI y)), (1, .int (iI mo))] := hl
  refine lv_iload_n hx hb d_Ref_length_0 rfl (lv_at hl 1 rfl) ?_
  refine lv_iconst (v := iI 2) hx hb d_Ref_length_1 rfl ?_
  refine ri_icmp_ne (tgt := 22) hx hb d_Ref_length_2 (by decide) (fun h2 => ?_) (fun h2 => ?_)
  · refine lv_iload_n hx hb d_Ref_length_22 rfl (lv_at hl 1 rfl) ?_
    refine lv_iconst (v := iI 4) hx hb d_Ref_length_23 rfl ?_
    refine ri_icmp_eq (tgt := 45) hx hb d_Ref_length_24 (by decide) (fun h24 => ?_) (fun h24 => ?_)
    · refine lv_bipush (v := iI 30) hx hb d_Ref_length_45 (by decide) ?_
      refine lv_goto (tgt := 52) hx hb d_Ref_length_47 (by decide) ?_
      exact p_iret hx hb hr hlk d_Ref_length_52 (by unfold cLen; first | (rw [if_pos h2, bI_e1 h9]; rfl) | (rw [if_pos h2, bI_e0 h9]; rfl) | (rw [if_neg h2, if_pos (by omega)]; done) | (rw [if_neg h2, if_neg (by omega)]; done))
    · refine lv_iload_n hx hb d_Ref_length_27 rfl (lv_at hl 1 rfl) ?_
      refine lv_bipush (v := iI 6) hx hb d_Ref_length_28 (by decide) ?_
      refine ri_icmp_eq (tgt := 45) hx hb d_Ref_length_30 (by decide) (fun h30 => ?_) (fun h30 => ?_)
      · refine lv_bipush (v := iI 30) hx hb d_Ref_length_45 (by decide) ?_
        refine lv_goto (tgt := 52) hx hb d_Ref_length_47 (by decide) ?_
        exact p_iret hx hb hr hlk d_Ref_length_52 (by unfold cLen; first | (rw [if_pos h2, bI_e1 h9]; rfl) | (rw [if_pos h2, bI_e0 h9]; rfl) | (rw [if_neg h2, if_pos (by omega)]; done) | (rw [if_neg h2, if_neg (by omega)]; done))
      · refine lv_iload_n hx hb d_Ref_length_33 rfl (lv_at hl 1 rfl) ?_
        refine lv_bipush (v := iI 9) hx hb d_Ref_length_34 (by decide) ?_
        refine ri_icmp_eq (tgt := 45) hx hb d_Ref_length_36 (by decide) (fun h36 => ?_) (fun h36 => ?_)
        · refine lv_bipush (v := iI 30) hx hb d_Ref_length_45 (by decide) ?_
          refine lv_goto (tgt := 52) hx hb d_Ref_length_47 (by decide) ?_
          exact p_iret hx hb hr hlk d_Ref_length_52 (by unfold cLen; first | (rw [if_pos h2, bI_e1 h9]; rfl) | (rw [if_pos h2, bI_e0 h9]; rfl) | (rw [if_neg h2, if_pos (by omega)]; done) | (rw [if_neg h2, if_neg (by omega)]; done))
        · refine lv_iload_n hx hb d_Ref_length_39 rfl (lv_at hl 1 rfl) ?_
          refine lv_bipush (v := iI 11) hx hb d_Ref_length_40 (by decide) ?_
          refine ri_icmp_ne (tgt := 50) hx hb d_Ref_length_42 (by decide) (fun h42 => ?_) (fun h42 => ?_)
          · refine lv_bipush (v := iI 31) hx hb d_Ref_length_50 (by decide) ?_
            exact p_iret hx hb hr hlk d_Ref_length_52 (by unfold cLen; first | (rw [if_pos h2, bI_e1 h9]; rfl) | (rw [if_pos h2, bI_e0 h9]; rfl) | (rw [if_neg h2, if_pos (by omega)]; done) | (rw [if_neg h2, if_neg (by omega)]; done))
          · refine lv_bipush (v := iI 30) hx hb d_Ref_length_45 (by decide) ?_
            refine lv_goto (tgt := 52) hx hb d_Ref_length_47 (by decide) ?_
            exact p_iret hx hb hr hlk d_Ref_length_52 (by unfold cLen; first | (rw [if_pos h2, bI_e1 h9]; rfl) | (rw [if_pos h2, bI_e0 h9]; rfl) | (rw [if_neg h2, if_pos (by omega)]; done) | (rw [if_neg h2, if_neg (by omega)]; done))
  · refine lv_iload_n hx hb d_Ref_length_5 rfl (lv_at hl 0 rfl) ?_
    refine p_callS (rest := []) hx hb (hml.trans hl.1.symm) hown hk hK k_Ref_47 (ct_Ref_leap l D tys y (by omega) (by omega)) nil_P nil_D rfl rfl ⟨rfl, rfl⟩ ⟨by decide, by decide, by decide, by decide⟩ (Nat.le_of_ble_eq_true rfl) d_Ref_length_6 ?_
    have gB := bI_b (cLeap y)
    refine ri_if_eq (tgt := 17) hx hb d_Ref_length_9 (by decide) (fun h9 => ?_) (fun h9 => ?_)
    · refine lv_bipush (v := iI 28) hx hb d_Ref_length_17 (by decide) ?_
      refine lv_goto (tgt := 52) hx hb d_Ref_length_19 (by decide) ?_
      exact p_iret hx hb hr hlk d_Ref_length_52 (by unfold cLen; first | (rw [if_pos h2, bI_e1 h9]; rfl) | (rw [if_pos h2, bI_e0 h9]; rfl) | (rw [if_neg h2, if_pos (by omega)]; done) | (rw [if_neg h2, if_neg (by omega)]; done))
    · refine lv_bipush (v := iI 29) hx hb d_Ref_length_12 (by decide) ?_
      refine lv_goto (tgt := 52) hx hb d_Ref_length_14 (by decide) ?_
      exact p_iret hx hb hr hlk d_Ref_length_52 (by unfold cLen; first | (rw [if_pos h2, bI_e1 h9]; rfl) | (rw [if_pos h2, bI_e0 h9]; rfl) | (rw [if_neg h2, if_pos (by omega)]; done) | (rw [if_neg h2, if_neg (by omega)]; done))
abbrev rm_Ref_number : Room := { frames := 2, cells := 0, slots := 0, locals := 41 }
set_option maxHeartbeats 4000000 in
set_option maxRecDepth 100000 in
theorem ct_Ref_number (l : Launch) (D : va_G) (tys : List (ClassId × FieldType)) (y : Int) (mo : Int) (gy1 : 1900 ≤ y) (gy2 : y ≤ 2400) (gm1 : 1 ≤ mo) (gm2 : mo ≤ 12) : pMet l y_Ref_number c_Ref_number 5 (some .int) rm_Ref_number D tys [.int (iI y), .int (iI mo)] [] (.int (iI (cFD y mo))) := by
  refine pMet_of (by decide) (Nat.le_of_ble_eq_true rfl) ?_
  intro p e s m below meth c hx hb hr hown hlk hml hk hK hP hD ls hl
  have hl : lv_has ls 5 [(0, .int (iI y)), (1, .int (iI mo))] := hl
  refine lv_iload_n hx hb d_Ref_number_0 rfl (lv_at hl 0 rfl) ?_
  refine lv_iconst (v := iI 1) hx hb d_Ref_number_1 rfl ?_
  refine ri_isub hx hb d_Ref_number_2 ?_
  refine lv_istore_n (lv' := [(2, .int (iI (y - 1))), (0, .int (iI y)), (1, .int (iI mo))]) hx hb d_Ref_number_3 rfl hl (by decide) rfl (fun ls hl => ?_)
  refine lv_sipush (v := iI 365) hx hb d_Ref_number_4 (by decide) ?_
  refine lv_iload_n hx hb d_Ref_number_7 rfl (lv_at hl 1 rfl) ?_
  refine lv_sipush (v := iI 1970) hx hb d_Ref_number_8 (by decide) ?_
  refine ri_isub hx hb d_Ref_number_11 ?_
  refine ri_imul hx hb d_Ref_number_12 ?_
  refine lv_iload_n hx hb d_Ref_number_13 rfl (lv_at hl 0 rfl) ?_
  refine lv_iconst (v := iI 4) hx hb d_Ref_number_14 rfl ?_
  refine ri_idiv hx hb d_Ref_number_15 ?_
  refine ri_iadd hx hb d_Ref_number_16 ?_
  refine lv_iload_n hx hb d_Ref_number_17 rfl (lv_at hl 0 rfl) ?_
  refine lv_bipush (v := iI 100) hx hb d_Ref_number_18 (by decide) ?_
  refine ri_idiv hx hb d_Ref_number_20 ?_
  refine ri_isub hx hb d_Ref_number_21 ?_
  refine lv_iload_n hx hb d_Ref_number_22 rfl (lv_at hl 0 rfl) ?_
  refine lv_sipush (v := iI 400) hx hb d_Ref_number_23 (by decide) ?_
  refine ri_idiv hx hb d_Ref_number_26 ?_
  refine ri_iadd hx hb d_Ref_number_27 ?_
  refine lv_sipush (v := iI 477) hx hb d_Ref_number_28 (by decide) ?_
  refine ri_isub hx hb d_Ref_number_31 ?_
  refine ri_i (show ((((365 * (y - 1970)) + ((y - 1) / 4)) - ((y - 1) / 100)) + ((y - 1) / 400)) - 477 = cFD y 1 from by rw [cFD_1]; unfold cYear; omega) ?_
  refine lv_istore_n (lv' := [(3, .int (iI (cFD y 1))), (2, .int (iI (y - 1))), (0, .int (iI y)), (1, .int (iI mo))]) hx hb d_Ref_number_32 rfl hl (by decide) rfl (fun ls hl => ?_)
  refine lv_iconst (v := iI 1) hx hb d_Ref_number_33 rfl ?_
  refine lv_istore (lv' := [(4, .int (iI 1)), (3, .int (iI (cFD y 1))), (2, .int (iI (y - 1))), (0, .int (iI y)), (1, .int (iI mo))]) hx hb d_Ref_number_34 hl (by decide) rfl (fun ls hl => ?_)
  have loop36 : ∀ (n : Nat) (k : Int) (ls : Array Slot), (1 ≤ k) → (k ≤ mo) → (mo - k).toNat = n → lv_has ls 5 [(4, .int (iI k)), (3, .int (iI (cFD y k))), (0, .int (iI y)), (1, .int (iI mo))] → W p l e rm_Ref_number s m ([.int (iI y), .int (iI mo)] : List Value).toArray below meth c s.heap [] 0 0 (MQ below (pQ (.int (iI (cFD y mo)))) ([.int (iI y), .int (iI mo)] : List Value).toArray s 0 0 (fun _ => False)) (F0 m 36 ls []) := by
    intro n
    induction n using Nat.strongRecOn with
    | _ n ih =>
    intro k ls hk1 hk2 hn hl
    refine lv_iload hx hb d_Ref_number_36 (lv_at hl 0 rfl) ?_
    refine lv_iload_n hx hb d_Ref_number_38 rfl (lv_at hl 3 rfl) ?_
    refine ri_icmp_ge (tgt := 57) hx hb d_Ref_number_39 (by decide) (fun h39 => ?_) (fun h39 => ?_)
    · refine lv_iload_n hx hb d_Ref_number_57 rfl (lv_at hl 1 rfl) ?_
      exact p_iret hx hb hr hlk d_Ref_number_58 (by rw [show k = mo by omega])
    · refine lv_iload_n hx hb d_Ref_number_42 rfl (lv_at hl 1 rfl) ?_
      refine lv_iload_n hx hb d_Ref_number_43 rfl (lv_at hl 2 rfl) ?_
      refine lv_iload hx hb d_Ref_number_44 (lv_at hl 0 rfl) ?_
      refine p_callS (rest := [.int (iI (cFD y k))]) hx hb (hml.trans hl.1.symm) hown hk hK k_Ref_51 (ct_Ref_length l D tys y k (by omega) (by omega) (by omega) (by omega)) nil_P nil_D rfl rfl ⟨rfl, rfl⟩ ⟨by decide, by decide, by decide, by decide⟩ (Nat.le_of_ble_eq_true rfl) d_Ref_number_46 ?_
      refine ri_iadd hx hb d_Ref_number_49 ?_
      refine ri_i (show (cFD y k) + (cLen y k) = cFD y (k + 1) from (cFD_succ y hk1).symm) ?_
      refine lv_istore_n (lv' := [(3, .int (iI (cFD y (k + 1)))), (4, .int (iI k)), (0, .int (iI y)), (1, .int (iI mo))]) hx hb d_Ref_number_50 rfl hl (by decide) rfl (fun ls hl => ?_)
      refine lv_iinc (k := 1) (v := iI (k + 1)) (lv' := [(4, .int (iI (k + 1))), (3, .int (iI (cFD y (k + 1)))), (0, .int (iI y)), (1, .int (iI mo))]) hx hb d_Ref_number_51 hl rfl (iI_add _ _) (by decide) rfl (fun ls hl => ?_)
      refine lv_goto (tgt := 36) hx hb d_Ref_number_54 (by decide) ?_
      exact ih _ (by omega) (k + 1) ls (by omega) (by omega) rfl (lv_sub hl [0, 1, 2, 3] rfl)
  exact loop36 _ 1 ls (by omega) (by omega) rfl (lv_sub hl [0, 1, 3, 4] rfl)
abbrev rm_Ref_weekday : Room := { frames := 1, cells := 0, slots := 0, locals := 22 }
set_option maxHeartbeats 4000000 in
set_option maxRecDepth 100000 in
theorem ct_Ref_weekday (l : Launch) (D : va_G) (tys : List (ClassId × FieldType)) (d : Int) (gd1 : -1000000 ≤ d) (gd2 : d ≤ 1000000) : pMet l y_Ref_weekday c_Ref_weekday 1 (some .int) rm_Ref_weekday D tys [.int (iI d)] [] (.int (iI (cWd d + 1))) := by
  refine pMet_of (by decide) (Nat.le_of_ble_eq_true rfl) ?_
  intro p e s m below meth c hx hb hr hown hlk hml hk hK hP hD ls hl
  have hl : lv_has ls 1 [(0, .int (iI d))] := hl
  refine lv_iload_n hx hb d_Ref_weekday_0 rfl (lv_at hl 0 rfl) ?_
  refine lv_iconst (v := iI 4) hx hb d_Ref_weekday_1 rfl ?_
  refine ri_iadd hx hb d_Ref_weekday_2 ?_
  refine lv_bipush (v := iI 7) hx hb d_Ref_weekday_3 (by decide) ?_
  refine p_callS (rest := []) hx hb (hml.trans hl.1.symm) hown hk hK k_Ref_72 (ct_Math_floorModI l D tys (d + 4) 7 (by omega) (by omega) (by omega) (by omega)) nil_P nil_D rfl rfl ⟨rfl, rfl⟩ ⟨by decide, by decide, by decide, by decide⟩ (Nat.le_of_ble_eq_true rfl) d_Ref_weekday_5 ?_
  refine lv_iconst (v := iI 1) hx hb d_Ref_weekday_8 rfl ?_
  refine ri_iadd hx hb d_Ref_weekday_9 ?_
  exact p_iret hx hb hr hlk d_Ref_weekday_10 (by rfl)
abbrev rm_Ref_digit : Room := { frames := 0, cells := 0, slots := 0, locals := 0 }
set_option maxHeartbeats 4000000 in
set_option maxRecDepth 100000 in
theorem ct_Ref_digit (l : Launch) (D : va_G) (tys : List (ClassId × FieldType)) (x : Int) (gx1 : -2147483648 ≤ x) (gx2 : x ≤ 2147483647) : pMet l y_Ref_digit c_Ref_digit 1 (some .boolean) rm_Ref_digit D tys [.int (iI x)] [] (.int (iI (bI (zDigB x)))) := by
  refine pMet_of (by decide) (Nat.le_of_ble_eq_true rfl) ?_
  intro p e s m below meth c hx hb hr hown hlk hml hk hK hP hD ls hl
  have hl : lv_has ls 1 [(0, .int (iI x))] := hl
  refine lv_iload_n hx hb d_Ref_digit_0 rfl (lv_at hl 0 rfl) ?_
  refine lv_bipush (v := iI 48) hx hb d_Ref_digit_1 (by decide) ?_
  refine ri_icmp_lt (tgt := 16) hx hb d_Ref_digit_3 (by decide) (fun h3 => ?_) (fun h3 => ?_)
  · refine lv_iconst (v := iI 0) hx hb d_Ref_digit_16 rfl ?_
    exact p_zret hx hb hr hlk d_Ref_digit_17 (by unfold zDigB; first | (rw [decide_eq_false (show ¬ 48 ≤ x by omega)]; rfl) | (rw [decide_eq_true (show 48 ≤ x by omega), decide_eq_false (show ¬ x ≤ 57 by omega)]; rfl) | (rw [decide_eq_true (show 48 ≤ x by omega), decide_eq_true (show x ≤ 57 by omega)]; rfl)) (by omega)
  · refine lv_iload_n hx hb d_Ref_digit_6 rfl (lv_at hl 0 rfl) ?_
    refine lv_bipush (v := iI 57) hx hb d_Ref_digit_7 (by decide) ?_
    refine ri_icmp_gt (tgt := 16) hx hb d_Ref_digit_9 (by decide) (fun h9 => ?_) (fun h9 => ?_)
    · refine lv_iconst (v := iI 0) hx hb d_Ref_digit_16 rfl ?_
      exact p_zret hx hb hr hlk d_Ref_digit_17 (by unfold zDigB; first | (rw [decide_eq_false (show ¬ 48 ≤ x by omega)]; rfl) | (rw [decide_eq_true (show 48 ≤ x by omega), decide_eq_false (show ¬ x ≤ 57 by omega)]; rfl) | (rw [decide_eq_true (show 48 ≤ x by omega), decide_eq_true (show x ≤ 57 by omega)]; rfl)) (by omega)
    · refine lv_iconst (v := iI 1) hx hb d_Ref_digit_12 rfl ?_
      refine lv_goto (tgt := 17) hx hb d_Ref_digit_13 (by decide) ?_
      exact p_zret hx hb hr hlk d_Ref_digit_17 (by unfold zDigB; first | (rw [decide_eq_false (show ¬ 48 ≤ x by omega)]; rfl) | (rw [decide_eq_true (show 48 ≤ x by omega), decide_eq_false (show ¬ x ≤ 57 by omega)]; rfl) | (rw [decide_eq_true (show 48 ≤ x by omega), decide_eq_true (show x ≤ 57 by omega)]; rfl)) (by omega)
abbrev rm_Ref_thrown : Room := { frames := 0, cells := 0, slots := 0, locals := 0 }
set_option maxHeartbeats 4000000 in
set_option maxRecDepth 100000 in
theorem ct_Ref_thrown (l : Launch) (D : va_G) (tys : List (ClassId × FieldType)) (mm : Nat) (tA : Nat) (oA : Nat) (sA : Nat) (eA : Nat) (gA : Nat) (cA : Nat) (rA : Nat) (fA : Nat) (fa : Int) (nn : Nat) (pl : Int) (yr : Int) (mn : Int) (dy : Int) (i : Nat)  : pMet l y_Ref_thrown c_Ref_thrown 1 (some .int) rm_Ref_thrown D tys [.ref mm] [(mm, .inr (4, [.int (iI fa), .ref tA, .int (iI ((nn : Int))), .int (iI pl), .int (iI yr), .int (iI mn), .int (iI dy), .int (iI ((i : Int))), .ref oA, .ref sA, .ref eA, .ref gA, .ref cA, .ref rA, .ref fA]))] (.int (iI fa)) := by
  refine pMet_of (by decide) (Nat.le_of_ble_eq_true rfl) ?_
  intro p e s m below meth c hx hb hr hown hlk hml hk hK hP hD ls hl
  have hl : lv_has ls 1 [(0, .ref mm)] := hl
  refine lv_aload_n hx hb d_Ref_thrown_0 rfl (lv_at hl 0 rfl) ?_
  refine g_get hx hb hk hown hK hP 0 rfl f_Ref_44 rfl d_Ref_thrown_1 ?_
  exact p_iret hx hb hr hlk d_Ref_thrown_4 (by rfl)
abbrev rm_Ref_fail : Room := { frames := 0, cells := 0, slots := 0, locals := 0 }
set_option maxHeartbeats 4000000 in
set_option maxRecDepth 100000 in
theorem ct_Ref_fail (l : Launch) (D : va_G) (tys : List (ClassId × FieldType)) (mm : Nat) (tA : Nat) (oA : Nat) (sA : Nat) (eA : Nat) (gA : Nat) (cA : Nat) (rA : Nat) (fA : Nat) (fa : Int) (nn : Nat) (pl : Int) (yr : Int) (mn : Int) (dy : Int) (i : Nat) (cd : Int)  : mMet l y_Ref_fail c_Ref_fail 2 (some .int) rm_Ref_fail D tys [.ref mm, .int (iI cd)] [(mm, .inr (4, [.int (iI fa), .ref tA, .int (iI ((nn : Int))), .int (iI pl), .int (iI yr), .int (iI mn), .int (iI dy), .int (iI ((i : Int))), .ref oA, .ref sA, .ref eA, .ref gA, .ref cA, .ref rA, .ref fA]))] (some (.int (iI 0))) [(mm, .inr (4, [.int (iI cd), .ref tA, .int (iI ((nn : Int))), .int (iI pl), .int (iI yr), .int (iI mn), .int (iI dy), .int (iI ((i : Int))), .ref oA, .ref sA, .ref eA, .ref gA, .ref cA, .ref rA, .ref fA]))] := by
  refine mMet_of (by decide) (Nat.le_of_ble_eq_true rfl) ?_
  intro p e s m below meth c hx hb hr hown hlk hml hk hK hP hD hS ls hl
  have hl : lv_has ls 2 [(0, .ref mm), (1, .int (iI cd))] := hl
  refine lv_aload_n hx hb d_Ref_fail_0 rfl (lv_at hl 0 rfl) ?_
  refine lv_iload_n hx hb d_Ref_fail_1 rfl (lv_at hl 1 rfl) ?_
  refine g_put hx hb hk hown hK hP hD hS 0 rfl f_Ref_44 fT_Ref rfl (rfl) rfl (Nat.le_of_ble_eq_true rfl) d_Ref_fail_2 (fun H locs hP hD hS => ?_)
  have hP : va_P D vwCl [(mm, .inr (4, [.int (iI cd), .ref tA, .int (iI ((nn : Int))), .int (iI pl), .int (iI yr), .int (iI mn), .int (iI dy), .int (iI ((i : Int))), .ref oA, .ref sA, .ref eA, .ref gA, .ref cA, .ref rA, .ref fA]))] H := hP
  have hD : va_D (wA [(mm, .inr (4, [.int (iI fa), .ref tA, .int (iI ((nn : Int))), .int (iI pl), .int (iI yr), .int (iI mn), .int (iI dy), .int (iI ((i : Int))), .ref oA, .ref sA, .ref eA, .ref gA, .ref cA, .ref rA, .ref fA]))]) [(mm, .inr (4, [.int (iI cd), .ref tA, .int (iI ((nn : Int))), .int (iI pl), .int (iI yr), .int (iI mn), .int (iI dy), .int (iI ((i : Int))), .ref oA, .ref sA, .ref eA, .ref gA, .ref cA, .ref rA, .ref fA]))] := hD
  refine lv_iconst (v := iI 0) hx hb d_Ref_fail_5 rfl ?_
  exact m_iret hx hb hr hlk hP hS d_Ref_fail_6 (by rfl) (by rfl)
abbrev rm_Ref_place : Room := { frames := 0, cells := 0, slots := 0, locals := 0 }
set_option maxHeartbeats 4000000 in
set_option maxRecDepth 100000 in
theorem ct_Ref_place (l : Launch) (D : va_G) (tys : List (ClassId × FieldType)) (mm : Nat) (tA : Nat) (oA : Nat) (sA : Nat) (eA : Nat) (gA : Nat) (cA : Nat) (rA : Nat) (fA : Nat) (fa : Int) (nn : Nat) (pl : Int) (yr : Int) (mn : Int) (dy : Int) (i : Nat)  : mMet l y_Ref_place c_Ref_place 1 (some .int) rm_Ref_place D tys [.ref mm] [(mm, .inr (4, [.int (iI fa), .ref tA, .int (iI ((nn : Int))), .int (iI pl), .int (iI yr), .int (iI mn), .int (iI dy), .int (iI ((i : Int))), .ref oA, .ref sA, .ref eA, .ref gA, .ref cA, .ref rA, .ref fA]))] (some (.int (iI pl))) [(mm, .inr (4, [.int (iI 0), .ref tA, .int (iI ((nn : Int))), .int (iI pl), .int (iI yr), .int (iI mn), .int (iI dy), .int (iI ((i : Int))), .ref oA, .ref sA, .ref eA, .ref gA, .ref cA, .ref rA, .ref fA]))] := by
  refine mMet_of (by decide) (Nat.le_of_ble_eq_true rfl) ?_
  intro p e s m below meth c hx hb hr hown hlk hml hk hK hP hD hS ls hl
  have hl : lv_has ls 1 [(0, .ref mm)] := hl
  refine lv_aload_n hx hb d_Ref_place_0 rfl (lv_at hl 0 rfl) ?_
  refine lv_iconst (v := iI 0) hx hb d_Ref_place_1 rfl ?_
  refine g_put hx hb hk hown hK hP hD hS 0 rfl f_Ref_44 fT_Ref rfl (rfl) rfl (Nat.le_of_ble_eq_true rfl) d_Ref_place_2 (fun H locs hP hD hS => ?_)
  have hP : va_P D vwCl [(mm, .inr (4, [.int (iI 0), .ref tA, .int (iI ((nn : Int))), .int (iI pl), .int (iI yr), .int (iI mn), .int (iI dy), .int (iI ((i : Int))), .ref oA, .ref sA, .ref eA, .ref gA, .ref cA, .ref rA, .ref fA]))] H := hP
  have hD : va_D (wA [(mm, .inr (4, [.int (iI fa), .ref tA, .int (iI ((nn : Int))), .int (iI pl), .int (iI yr), .int (iI mn), .int (iI dy), .int (iI ((i : Int))), .ref oA, .ref sA, .ref eA, .ref gA, .ref cA, .ref rA, .ref fA]))]) [(mm, .inr (4, [.int (iI 0), .ref tA, .int (iI ((nn : Int))), .int (iI pl), .int (iI yr), .int (iI mn), .int (iI dy), .int (iI ((i : Int))), .ref oA, .ref sA, .ref eA, .ref gA, .ref cA, .ref rA, .ref fA]))] := hD
  refine lv_aload_n hx hb d_Ref_place_5 rfl (lv_at hl 0 rfl) ?_
  refine g_get hx hb hk hown hK hP 0 rfl f_Ref_13 rfl d_Ref_place_6 ?_
  exact m_iret hx hb hr hlk hP hS d_Ref_place_9 (by rfl) (by rfl)
abbrev rm_Ref_peek : Room := { frames := 0, cells := 0, slots := 0, locals := 0 }
set_option maxHeartbeats 4000000 in
set_option maxRecDepth 100000 in
theorem ct_Ref_peek (l : Launch) (D : va_G) (tys : List (ClassId × FieldType)) (mm : Nat) (tA : Nat) (oA : Nat) (sA : Nat) (eA : Nat) (gA : Nat) (cA : Nat) (rA : Nat) (fA : Nat) (fa : Int) (nn : Nat) (pl : Int) (yr : Int) (mn : Int) (dy : Int) (i : Nat) (cB : ClassId) (f : Nat → Int32) (hty : tys[0]? = some (cB, .byte)) (gn : nn ≤ 400) (gi : i ≤ nn) : pMet l y_Ref_peek c_Ref_peek 1 (some .int) rm_Ref_peek D tys [.ref mm] [(mm, .inr (4, [.int (iI fa), .ref tA, .int (iI ((nn : Int))), .int (iI pl), .int (iI yr), .int (iI mn), .int (iI dy), .int (iI ((i : Int))), .ref oA, .ref sA, .ref eA, .ref gA, .ref cA, .ref rA, .ref fA])), (tA, .inl (cB, 400, .inl f))] (.int (iI (zPk nn f i))) := by
  refine pMet_of (by decide) (Nat.le_of_ble_eq_true rfl) ?_
  intro p e s m below meth c hx hb hr hown hlk hml hk hK hP hD ls hl
  have hl : lv_has ls 1 [(0, .ref mm)] := hl
  refine lv_aload_n hx hb d_Ref_peek_0 rfl (lv_at hl 0 rfl) ?_
  refine g_get hx hb hk hown hK hP 0 rfl f_Ref_78 rfl d_Ref_peek_1 ?_
  refine lv_aload_n hx hb d_Ref_peek_4 rfl (lv_at hl 0 rfl) ?_
  refine g_get hx hb hk hown hK hP 0 rfl f_Ref_81 rfl d_Ref_peek_5 ?_
  refine ri_icmp_ge (tgt := 27) hx hb d_Ref_peek_8 (by decide) (fun h8 => ?_) (fun h8 => ?_)
  · refine lv_iconst (v := iI (-1)) hx hb d_Ref_peek_27 rfl ?_
    exact p_iret hx hb hr hlk d_Ref_peek_28 (by first | (rw [zPk_out (by omega)]; done) | (rw [zPk_in (by omega)]; done))
  · refine lv_aload_n hx hb d_Ref_peek_11 rfl (lv_at hl 0 rfl) ?_
    refine g_get hx hb hk hown hK hP 0 rfl f_Ref_7 rfl d_Ref_peek_12 ?_
    refine lv_aload_n hx hb d_Ref_peek_15 rfl (lv_at hl 0 rfl) ?_
    refine g_get hx hb hk hown hK hP 0 rfl f_Ref_78 rfl d_Ref_peek_16 ?_
    refine g_bald (i := i) hx hb hK hP 1 0 rfl hty d_Ref_peek_19 ?_
    refine lv_sipush (v := iI 255) hx hb d_Ref_peek_20 (by decide) ?_
    refine lv_iand hx hb d_Ref_peek_23 ?_
    refine ri_v (tv_j _) ?_
    refine lv_goto (tgt := 28) hx hb d_Ref_peek_24 (by decide) ?_
    exact p_iret hx hb hr hlk d_Ref_peek_28 (by first | (rw [zPk_out (by omega)]; done) | (rw [zPk_in (by omega)]; done))
abbrev rm_Ref_bad : Room := { frames := 6, cells := 1, slots := 6, locals := 100 }
set_option maxHeartbeats 4000000 in
set_option maxRecDepth 100000 in
theorem ct_Ref_bad (l : Launch) (D : va_G) (tys : List (ClassId × FieldType)) (aS : Nat) (hoff : l.stackTraces = false) (mm : Nat) (tA : Nat) (oA : Nat) (sA : Nat) (eA : Nat) (gA : Nat) (cA : Nat) (rA : Nat) (fA : Nat) (fa : Int) (nn : Nat) (pl : Int) (yr : Int) (mn : Int) (dy : Int) (i : Nat) (pp : Int)  : xMet l y_Ref_bad c_Ref_bad 2 none rm_Ref_bad D tys aS [.ref mm, .int (iI pp)] [(mm, .inr (4, [.int (iI fa), .ref tA, .int (iI ((nn : Int))), .int (iI pl), .int (iI yr), .int (iI mn), .int (iI dy), .int (iI ((i : Int))), .ref oA, .ref sA, .ref eA, .ref gA, .ref cA, .ref rA, .ref fA]))] none "java/lang/UnsupportedOperationException" [(mm, .inr (4, [.int (iI fa), .ref tA, .int (iI ((nn : Int))), .int (iI pp), .int (iI yr), .int (iI mn), .int (iI dy), .int (iI ((i : Int))), .ref oA, .ref sA, .ref eA, .ref gA, .ref cA, .ref rA, .ref fA]))] := by
  refine xMet_of (by decide) (Nat.le_of_ble_eq_true rfl) ?_
  intro p e s m below meth c hx hb hr hown hlk hml hE hk hK hP hD hS hAS hZ ls hl
  have hl : lv_has ls 2 [(0, .ref mm), (1, .int (iI pp))] := hl
  refine lv_aload_n hx hb d_Ref_bad_0 rfl (lv_at hl 0 rfl) ?_
  refine lv_iload_n hx hb d_Ref_bad_1 rfl (lv_at hl 1 rfl) ?_
  refine g_put hx hb hk hown hK hP hD hS 0 rfl f_Ref_13 fT_Ref rfl (rfl) rfl (Nat.le_of_ble_eq_true rfl) d_Ref_bad_2 (fun H locs hP hD hS => ?_)
  have hP : va_P D vwCl [(mm, .inr (4, [.int (iI fa), .ref tA, .int (iI ((nn : Int))), .int (iI pp), .int (iI yr), .int (iI mn), .int (iI dy), .int (iI ((i : Int))), .ref oA, .ref sA, .ref eA, .ref gA, .ref cA, .ref rA, .ref fA]))] H := hP
  have hD : va_D (wA [(mm, .inr (4, [.int (iI fa), .ref tA, .int (iI ((nn : Int))), .int (iI pl), .int (iI yr), .int (iI mn), .int (iI dy), .int (iI ((i : Int))), .ref oA, .ref sA, .ref eA, .ref gA, .ref cA, .ref rA, .ref fA]))]) [(mm, .inr (4, [.int (iI fa), .ref tA, .int (iI ((nn : Int))), .int (iI pp), .int (iI yr), .int (iI mn), .int (iI dy), .int (iI ((i : Int))), .ref oA, .ref sA, .ref eA, .ref gA, .ref cA, .ref rA, .ref fA]))] := hD
  exact x_throw (rest := []) hx hb hlk (hml.trans hl.1.symm) hE hown hk hoff xw_Ref_75 hP hS hAS hZ d_Ref_bad_5 d_Ref_bad_8 d_Ref_bad_9 d_Ref_bad_12 (by rfl) rfl ⟨by decide, by decide, by decide, by decide⟩
abbrev rm_Ref_expect : Room := { frames := 1, cells := 0, slots := 0, locals := 20 }
set_option maxHeartbeats 4000000 in
set_option maxRecDepth 100000 in
theorem ct_Ref_expect (l : Launch) (D : va_G) (tys : List (ClassId × FieldType)) (mm : Nat) (tA : Nat) (oA : Nat) (sA : Nat) (eA : Nat) (gA : Nat) (cA : Nat) (rA : Nat) (fA : Nat) (fa : Int) (nn : Nat) (pl : Int) (yr : Int) (mn : Int) (dy : Int) (i : Nat) (cB : ClassId) (f : Nat → Int32) (w : Int) (hty : tys[0]? = some (cB, .byte)) (gn : nn ≤ 400) (gi : i ≤ nn) (gw1 : 0 ≤ w) (gw2 : w ≤ 65535) (gq : zPk nn f i = w) : mMet l y_Ref_expect c_Ref_expect 2 none rm_Ref_expect D tys [.ref mm, .int (iI w)] [(mm, .inr (4, [.int (iI fa), .ref tA, .int (iI ((nn : Int))), .int (iI pl), .int (iI yr), .int (iI mn), .int (iI dy), .int (iI ((i : Int))), .ref oA, .ref sA, .ref eA, .ref gA, .ref cA, .ref rA, .ref fA])), (tA, .inl (cB, 400, .inl f))] none [(mm, .inr (4, [.int (iI fa), .ref tA, .int (iI ((nn : Int))), .int (iI pl), .int (iI yr), .int (iI mn), .int (iI dy), .int (iI (((i + 1 : Nat) : Int))), .ref oA, .ref sA, .ref eA, .ref gA, .ref cA, .ref rA, .ref fA])), (tA, .inl (cB, 400, .inl f))] := by
  refine mMet_of (by decide) (Nat.le_of_ble_eq_true rfl) ?_
  intro p e s m below meth c hx hb hr hown hlk hml hk hK hP hD hS ls hl
  have hl : lv_has ls 2 [(0, .ref mm), (1, .int (iI w))] := hl
  have gP := zPk_b nn f i
  refine lv_aload_n hx hb d_Ref_expect_0 rfl (lv_at hl 0 rfl) ?_
  refine p_callV (rest := []) (q0 := 0) hx hb (hml.trans hl.1.symm) hown hk hK k_Ref_84 (ct_Ref_peek l D tys mm tA oA sA eA gA cA rA fA fa nn pl yr mn dy i cB f hty (by omega) (by omega)) (w_subP (is := [0, 1]) hP rfl) (w_subD (is := [0, 1]) hD rfl rfl) rfl rfl rfl rfl ⟨rfl, rfl⟩ ⟨by decide, by decide, by decide, by decide⟩ (Nat.le_of_ble_eq_true rfl) d_Ref_expect_1 ?_
  refine lv_iload_n hx hb d_Ref_expect_4 rfl (lv_at hl 1 rfl) ?_
  refine ri_icmp_eq (tgt := 16) hx hb d_Ref_expect_5 (by decide) (fun h5 => ?_) (fun h5 => ?_)
  · refine lv_aload_n hx hb d_Ref_expect_16 rfl (lv_at hl 0 rfl) ?_
    refine lv_dup hx hb d_Ref_expect_17 rfl ?_
    refine g_get hx hb hk hown hK hP 0 rfl f_Ref_78 rfl d_Ref_expect_18 ?_
    refine lv_iconst (v := iI 1) hx hb d_Ref_expect_21 rfl ?_
    refine ri_iadd hx hb d_Ref_expect_22 ?_
    refine ri_i (show ((i : Int)) + 1 = ((i + 1 : Nat) : Int) from by omega) ?_
    refine g_put hx hb hk hown hK hP hD hS 0 rfl f_Ref_78 fT_Ref rfl (rfl) rfl (Nat.le_of_ble_eq_true rfl) d_Ref_expect_23 (fun H locs hP hD hS => ?_)
    have hP : va_P D vwCl [(mm, .inr (4, [.int (iI fa), .ref tA, .int (iI ((nn : Int))), .int (iI pl), .int (iI yr), .int (iI mn), .int (iI dy), .int (iI (((i + 1 : Nat) : Int))), .ref oA, .ref sA, .ref eA, .ref gA, .ref cA, .ref rA, .ref fA])), (tA, .inl (cB, 400, .inl f))] H := hP
    have hD : va_D (wA [(mm, .inr (4, [.int (iI fa), .ref tA, .int (iI ((nn : Int))), .int (iI pl), .int (iI yr), .int (iI mn), .int (iI dy), .int (iI ((i : Int))), .ref oA, .ref sA, .ref eA, .ref gA, .ref cA, .ref rA, .ref fA])), (tA, .inl (cB, 400, .inl f))]) [(mm, .inr (4, [.int (iI fa), .ref tA, .int (iI ((nn : Int))), .int (iI pl), .int (iI yr), .int (iI mn), .int (iI dy), .int (iI (((i + 1 : Nat) : Int))), .ref oA, .ref sA, .ref eA, .ref gA, .ref cA, .ref rA, .ref fA])), (tA, .inl (cB, 400, .inl f))] := hD
    exact m_vret hx hb hr hlk hP hS d_Ref_expect_26 (by rfl)
  · exfalso; omega
abbrev rm_Ref_expect_x : Room := { frames := 7, cells := 1, slots := 6, locals := 121 }
set_option maxHeartbeats 4000000 in
set_option maxRecDepth 100000 in
theorem ct_Ref_expect_x (l : Launch) (D : va_G) (tys : List (ClassId × FieldType)) (aS : Nat) (hoff : l.stackTraces = false) (mm : Nat) (tA : Nat) (oA : Nat) (sA : Nat) (eA : Nat) (gA : Nat) (cA : Nat) (rA : Nat) (fA : Nat) (fa : Int) (nn : Nat) (pl : Int) (yr : Int) (mn : Int) (dy : Int) (i : Nat) (cB : ClassId) (f : Nat → Int32) (w : Int) (hty : tys[0]? = some (cB, .byte)) (gn : nn ≤ 400) (gi : i ≤ nn) (gw1 : 0 ≤ w) (gw2 : w ≤ 65535) (gq : zPk nn f i ≠ w) : xMet l y_Ref_expect c_Ref_expect 2 none rm_Ref_expect_x D tys aS [.ref mm, .int (iI w)] [(mm, .inr (4, [.int (iI fa), .ref tA, .int (iI ((nn : Int))), .int (iI pl), .int (iI yr), .int (iI mn), .int (iI dy), .int (iI ((i : Int))), .ref oA, .ref sA, .ref eA, .ref gA, .ref cA, .ref rA, .ref fA])), (tA, .inl (cB, 400, .inl f))] none "java/lang/UnsupportedOperationException" [(mm, .inr (4, [.int (iI fa), .ref tA, .int (iI ((nn : Int))), .int (iI ((i : Int))), .int (iI yr), .int (iI mn), .int (iI dy), .int (iI ((i : Int))), .ref oA, .ref sA, .ref eA, .ref gA, .ref cA, .ref rA, .ref fA])), (tA, .inl (cB, 400, .inl f))] := by
  refine xMet_of (by decide) (Nat.le_of_ble_eq_true rfl) ?_
  intro p e s m below meth c hx hb hr hown hlk hml hE hk hK hP hD hS hAS hZ ls hl
  have hl : lv_has ls 2 [(0, .ref mm), (1, .int (iI w))] := hl
  have gP := zPk_b nn f i
  refine lv_aload_n hx hb d_Ref_expect_0 rfl (lv_at hl 0 rfl) ?_
  refine p_callV (rest := []) (q0 := 0) hx hb (hml.trans hl.1.symm) hown hk hK k_Ref_84 (ct_Ref_peek l D tys mm tA oA sA eA gA cA rA fA fa nn pl yr mn dy i cB f hty (by omega) (by omega)) (w_subP (is := [0, 1]) hP rfl) (w_subD (is := [0, 1]) hD rfl rfl) rfl rfl rfl rfl ⟨rfl, rfl⟩ ⟨by decide, by decide, by decide, by decide⟩ (Nat.le_of_ble_eq_true rfl) d_Ref_expect_1 ?_
  refine lv_iload_n hx hb d_Ref_expect_4 rfl (lv_at hl 1 rfl) ?_
  refine ri_icmp_eq (tgt := 16) hx hb d_Ref_expect_5 (by decide) (fun h5 => ?_) (fun h5 => ?_)
  · exfalso; omega
  · refine lv_aload_n hx hb d_Ref_expect_8 rfl (lv_at hl 0 rfl) ?_
    refine lv_aload_n hx hb d_Ref_expect_9 rfl (lv_at hl 0 rfl) ?_
    refine g_get hx hb hk hown hK hP 0 rfl f_Ref_78 rfl d_Ref_expect_10 ?_
    exact x_thr (x_runV (rest := []) (q0 := 0) hx hb (hml.trans hl.1.symm) hown hk hK k_Ref_88 (ct_Ref_bad l D tys aS hoff mm tA oA sA eA gA cA rA fA fa nn pl yr mn dy i ((i : Int)) ) (w_subP (is := [0]) hP rfl) (x_subD (is := [0]) hD hAS rfl rfl) (x_zH hZ hS hAS) rfl rfl rfl rfl ⟨by decide, by decide, by decide, by decide⟩ (Nat.le_of_ble_eq_true rfl) d_Ref_expect_13) hE hlk hP hD hS [0] rfl rfl (by rfl) rfl
abbrev rm_Ref_blanks : Room := { frames := 1, cells := 0, slots := 0, locals := 20 }
set_option maxHeartbeats 4000000 in
set_option maxRecDepth 100000 in
theorem ct_Ref_blanks (l : Launch) (D : va_G) (tys : List (ClassId × FieldType)) (mm : Nat) (tA : Nat) (oA : Nat) (sA : Nat) (eA : Nat) (gA : Nat) (cA : Nat) (rA : Nat) (fA : Nat) (fa : Int) (nn : Nat) (pl : Int) (yr : Int) (mn : Int) (dy : Int) (i : Nat) (cB : ClassId) (f : Nat → Int32) (hty : tys[0]? = some (cB, .byte)) (gn : nn ≤ 400) (gi : i ≤ nn) (gq : zPk nn f i = 32) : mMet l y_Ref_blanks c_Ref_blanks 1 none rm_Ref_blanks D tys [.ref mm] [(mm, .inr (4, [.int (iI fa), .ref tA, .int (iI ((nn : Int))), .int (iI pl), .int (iI yr), .int (iI mn), .int (iI dy), .int (iI ((i : Int))), .ref oA, .ref sA, .ref eA, .ref gA, .ref cA, .ref rA, .ref fA])), (tA, .inl (cB, 400, .inl f))] none [(mm, .inr (4, [.int (iI fa), .ref tA, .int (iI ((nn : Int))), .int (iI pl), .int (iI yr), .int (iI mn), .int (iI dy), .int (iI ((((zBl nn f (i, false)).1 : Nat) : Int))), .ref oA, .ref sA, .ref eA, .ref gA, .ref cA, .ref rA, .ref fA])), (tA, .inl (cB, 400, .inl f))] := by
  refine mMet_of (by decide) (Nat.le_of_ble_eq_true rfl) ?_
  intro p e s m below meth c hx hb hr hown hlk hml hk hK hP hD hS ls hl
  have hl : lv_has ls 1 [(0, .ref mm)] := hl
  have gP := zPk_b nn f i
  refine lv_aload_n hx hb d_Ref_blanks_0 rfl (lv_at hl 0 rfl) ?_
  refine p_callV (rest := []) (q0 := 0) hx hb (hml.trans hl.1.symm) hown hk hK k_Ref_84 (ct_Ref_peek l D tys mm tA oA sA eA gA cA rA fA fa nn pl yr mn dy i cB f hty (by omega) (by omega)) (w_subP (is := [0, 1]) hP rfl) (w_subD (is := [0, 1]) hD rfl rfl) rfl rfl rfl rfl ⟨rfl, rfl⟩ ⟨by decide, by decide, by decide, by decide⟩ (Nat.le_of_ble_eq_true rfl) d_Ref_blanks_1 ?_
  refine lv_bipush (v := iI 32) hx hb d_Ref_blanks_4 (by decide) ?_
  refine ri_icmp_eq (tgt := 17) hx hb d_Ref_blanks_6 (by decide) (fun h6 => ?_) (fun h6 => ?_)
  · have loop17 : ∀ (n : Nat) (j : Nat) (ls : Array Slot) (H : Heap) (locs : List Loc), (j ≤ nn) → (zSkip f (nn - i) i = zSkip f (nn - j) j) → nn - j = n → va_P D vwCl [(mm, .inr (4, [.int (iI fa), .ref tA, .int (iI ((nn : Int))), .int (iI pl), .int (iI yr), .int (iI mn), .int (iI dy), .int (iI ((j : Int))), .ref oA, .ref sA, .ref eA, .ref gA, .ref cA, .ref rA, .ref fA])), (tA, .inl (cB, 400, .inl f))] H → va_D (wA [(mm, .inr (4, [.int (iI fa), .ref tA, .int (iI ((nn : Int))), .int (iI pl), .int (iI yr), .int (iI mn), .int (iI dy), .int (iI ((i : Int))), .ref oA, .ref sA, .ref eA, .ref gA, .ref cA, .ref rA, .ref fA])), (tA, .inl (cB, 400, .inl f))]) [(mm, .inr (4, [.int (iI fa), .ref tA, .int (iI ((nn : Int))), .int (iI pl), .int (iI yr), .int (iI mn), .int (iI dy), .int (iI ((j : Int))), .ref oA, .ref sA, .ref eA, .ref gA, .ref cA, .ref rA, .ref fA])), (tA, .inl (cB, 400, .inl f))] → va_S (wA [(mm, .inr (4, [.int (iI fa), .ref tA, .int (iI ((nn : Int))), .int (iI pl), .int (iI yr), .int (iI mn), .int (iI dy), .int (iI ((i : Int))), .ref oA, .ref sA, .ref eA, .ref gA, .ref cA, .ref rA, .ref fA])), (tA, .inl (cB, 400, .inl f))]) s.heap H locs → lv_has ls 1 [(0, .ref mm)] → W p l e rm_Ref_blanks s m ([.ref mm] : List Value).toArray below meth c H locs 0 0 (MQ below (mQ D [(mm, .inr (4, [.int (iI fa), .ref tA, .int (iI ((nn : Int))), .int (iI pl), .int (iI yr), .int (iI mn), .int (iI dy), .int (iI ((i : Int))), .ref oA, .ref sA, .ref eA, .ref gA, .ref cA, .ref rA, .ref fA])), (tA, .inl (cB, 400, .inl f))] none [(mm, .inr (4, [.int (iI fa), .ref tA, .int (iI ((nn : Int))), .int (iI pl), .int (iI yr), .int (iI mn), .int (iI dy), .int (iI ((((zBl nn f (i, false)).1 : Nat) : Int))), .ref oA, .ref sA, .ref eA, .ref gA, .ref cA, .ref rA, .ref fA])), (tA, .inl (cB, 400, .inl f))]) ([.ref mm] : List Value).toArray s 0 0 (wA [(mm, .inr (4, [.int (iI fa), .ref tA, .int (iI ((nn : Int))), .int (iI pl), .int (iI yr), .int (iI mn), .int (iI dy), .int (iI ((i : Int))), .ref oA, .ref sA, .ref eA, .ref gA, .ref cA, .ref rA, .ref fA])), (tA, .inl (cB, 400, .inl f))])) (F0 m 17 ls []) := by
      intro n
      induction n using Nat.strongRecOn with
      | _ n ih =>
      intro j ls H locs hj hv hn hP hD hS hl
      have gP2 := zPk_b nn f j
      refine lv_aload_n hx hb d_Ref_blanks_17 rfl (lv_at hl 0 rfl) ?_
      refine p_callV (rest := []) (q0 := 0) hx hb (hml.trans hl.1.symm) hown hk hK k_Ref_84 (ct_Ref_peek l D tys mm tA oA sA eA gA cA rA fA fa nn pl yr mn dy j cB f hty (by omega) (by omega)) (w_subP (is := [0, 1]) hP rfl) (w_subD (is := [0, 1]) hD rfl rfl) rfl rfl rfl rfl ⟨rfl, rfl⟩ ⟨by decide, by decide, by decide, by decide⟩ (Nat.le_of_ble_eq_true rfl) d_Ref_blanks_18 ?_
      refine lv_bipush (v := iI 32) hx hb d_Ref_blanks_21 (by decide) ?_
      refine ri_icmp_ne (tgt := 39) hx hb d_Ref_blanks_23 (by decide) (fun h23 => ?_) (fun h23 => ?_)
      · have hR : zSkip f (nn - j) j = j := by
          by_cases hjn : j < nn
          · exact zSkip_at (f := f) (n := nn) (j := j) hjn (by rw [← zPk_in (n := nn) (f := f) (i := j) hjn]; exact h23)
          · exact zSkip_end (f := f) (n := nn) (j := j) (by omega)
        exact m_vret hx hb hr hlk hP hS d_Ref_blanks_39 (by rw [zBl_go gq, hv, hR])
      · have gj : j < nn := zPk_lt (f := f) (by omega)
        refine lv_aload_n hx hb d_Ref_blanks_26 rfl (lv_at hl 0 rfl) ?_
        refine lv_dup hx hb d_Ref_blanks_27 rfl ?_
        refine g_get hx hb hk hown hK hP 0 rfl f_Ref_78 rfl d_Ref_blanks_28 ?_
        refine lv_iconst (v := iI 1) hx hb d_Ref_blanks_31 rfl ?_
        refine ri_iadd hx hb d_Ref_blanks_32 ?_
        refine ri_i (show ((j : Int)) + 1 = ((j + 1 : Nat) : Int) from by omega) ?_
        refine g_put hx hb hk hown hK hP hD hS 0 rfl f_Ref_78 fT_Ref rfl (rfl) rfl (Nat.le_of_ble_eq_true rfl) d_Ref_blanks_33 (fun H locs hP hD hS => ?_)
        have hP : va_P D vwCl [(mm, .inr (4, [.int (iI fa), .ref tA, .int (iI ((nn : Int))), .int (iI pl), .int (iI yr), .int (iI mn), .int (iI dy), .int (iI (((j + 1 : Nat) : Int))), .ref oA, .ref sA, .ref eA, .ref gA, .ref cA, .ref rA, .ref fA])), (tA, .inl (cB, 400, .inl f))] H := hP
        have hD : va_D (wA [(mm, .inr (4, [.int (iI fa), .ref tA, .int (iI ((nn : Int))), .int (iI pl), .int (iI yr), .int (iI mn), .int (iI dy), .int (iI ((i : Int))), .ref oA, .ref sA, .ref eA, .ref gA, .ref cA, .ref rA, .ref fA])), (tA, .inl (cB, 400, .inl f))]) [(mm, .inr (4, [.int (iI fa), .ref tA, .int (iI ((nn : Int))), .int (iI pl), .int (iI yr), .int (iI mn), .int (iI dy), .int (iI (((j + 1 : Nat) : Int))), .ref oA, .ref sA, .ref eA, .ref gA, .ref cA, .ref rA, .ref fA])), (tA, .inl (cB, 400, .inl f))] := hD
        refine lv_goto (tgt := 17) hx hb d_Ref_blanks_36 (by decide) ?_
        exact ih _ (by omega) (j + 1) ls _ _ gj (by rw [hv, zSkip_go (f := f) (n := nn) (j := j) gj (by rw [← zPk_in (n := nn) (f := f) (i := j) gj]; exact h23)]) rfl hP hD hS (lv_sub hl [0] rfl)
    exact loop17 _ i ls _ _ gi rfl rfl hP hD hS (lv_sub hl [0] rfl)
  · exfalso; omega
abbrev rm_Ref_blanks_x : Room := { frames := 7, cells := 1, slots := 6, locals := 121 }
set_option maxHeartbeats 4000000 in
set_option maxRecDepth 100000 in
theorem ct_Ref_blanks_x (l : Launch) (D : va_G) (tys : List (ClassId × FieldType)) (aS : Nat) (hoff : l.stackTraces = false) (mm : Nat) (tA : Nat) (oA : Nat) (sA : Nat) (eA : Nat) (gA : Nat) (cA : Nat) (rA : Nat) (fA : Nat) (fa : Int) (nn : Nat) (pl : Int) (yr : Int) (mn : Int) (dy : Int) (i : Nat) (cB : ClassId) (f : Nat → Int32) (hty : tys[0]? = some (cB, .byte)) (gn : nn ≤ 400) (gi : i ≤ nn) (gq : zPk nn f i ≠ 32) : xMet l y_Ref_blanks c_Ref_blanks 1 none rm_Ref_blanks_x D tys aS [.ref mm] [(mm, .inr (4, [.int (iI fa), .ref tA, .int (iI ((nn : Int))), .int (iI pl), .int (iI yr), .int (iI mn), .int (iI dy), .int (iI ((i : Int))), .ref oA, .ref sA, .ref eA, .ref gA, .ref cA, .ref rA, .ref fA])), (tA, .inl (cB, 400, .inl f))] none "java/lang/UnsupportedOperationException" [(mm, .inr (4, [.int (iI fa), .ref tA, .int (iI ((nn : Int))), .int (iI ((i : Int))), .int (iI yr), .int (iI mn), .int (iI dy), .int (iI ((i : Int))), .ref oA, .ref sA, .ref eA, .ref gA, .ref cA, .ref rA, .ref fA])), (tA, .inl (cB, 400, .inl f))] := by
  refine xMet_of (by decide) (Nat.le_of_ble_eq_true rfl) ?_
  intro p e s m below meth c hx hb hr hown hlk hml hE hk hK hP hD hS hAS hZ ls hl
  have hl : lv_has ls 1 [(0, .ref mm)] := hl
  have gP := zPk_b nn f i
  refine lv_aload_n hx hb d_Ref_blanks_0 rfl (lv_at hl 0 rfl) ?_
  refine p_callV (rest := []) (q0 := 0) hx hb (hml.trans hl.1.symm) hown hk hK k_Ref_84 (ct_Ref_peek l D tys mm tA oA sA eA gA cA rA fA fa nn pl yr mn dy i cB f hty (by omega) (by omega)) (w_subP (is := [0, 1]) hP rfl) (w_subD (is := [0, 1]) hD rfl rfl) rfl rfl rfl rfl ⟨rfl, rfl⟩ ⟨by decide, by decide, by decide, by decide⟩ (Nat.le_of_ble_eq_true rfl) d_Ref_blanks_1 ?_
  refine lv_bipush (v := iI 32) hx hb d_Ref_blanks_4 (by decide) ?_
  refine ri_icmp_eq (tgt := 17) hx hb d_Ref_blanks_6 (by decide) (fun h6 => ?_) (fun h6 => ?_)
  · exfalso; omega
  · refine lv_aload_n hx hb d_Ref_blanks_9 rfl (lv_at hl 0 rfl) ?_
    refine lv_aload_n hx hb d_Ref_blanks_10 rfl (lv_at hl 0 rfl) ?_
    refine g_get hx hb hk hown hK hP 0 rfl f_Ref_78 rfl d_Ref_blanks_11 ?_
    exact x_thr (x_runV (rest := []) (q0 := 0) hx hb (hml.trans hl.1.symm) hown hk hK k_Ref_88 (ct_Ref_bad l D tys aS hoff mm tA oA sA eA gA cA rA fA fa nn pl yr mn dy i ((i : Int)) ) (w_subP (is := [0]) hP rfl) (x_subD (is := [0]) hD hAS rfl rfl) (x_zH hZ hS hAS) rfl rfl rfl rfl ⟨by decide, by decide, by decide, by decide⟩ (Nat.le_of_ble_eq_true rfl) d_Ref_blanks_14) hE hlk hP hD hS [0] rfl rfl (by rfl) rfl
abbrev rm_Ref_ranged : Room := { frames := 1, cells := 0, slots := 0, locals := 21 }
set_option maxHeartbeats 4000000 in
set_option maxRecDepth 100000 in
theorem ct_Ref_ranged (l : Launch) (D : va_G) (tys : List (ClassId × FieldType)) (mm : Nat) (tA : Nat) (oA : Nat) (sA : Nat) (eA : Nat) (gA : Nat) (cA : Nat) (rA : Nat) (fA : Nat) (fa : Int) (nn : Nat) (pl : Int) (yr : Int) (mn : Int) (dy : Int) (i : Nat) (cB : ClassId) (f : Nat → Int32) (lo : Int) (hi : Int) (hty : tys[0]? = some (cB, .byte)) (gn : nn ≤ 400) (gi : i ≤ nn) (gl1 : 0 ≤ lo) (gl2 : lo ≤ 100000) (gh1 : 0 ≤ hi) (gh2 : hi ≤ 100000) (gq : lo ≤ (zDg nn f i).1 ∧ (zDg nn f i).1 ≤ hi) : mMet l y_Ref_ranged c_Ref_ranged 5 (some .int) rm_Ref_ranged D tys [.ref mm, .int (iI lo), .int (iI hi)] [(mm, .inr (4, [.int (iI fa), .ref tA, .int (iI ((nn : Int))), .int (iI pl), .int (iI yr), .int (iI mn), .int (iI dy), .int (iI ((i : Int))), .ref oA, .ref sA, .ref eA, .ref gA, .ref cA, .ref rA, .ref fA])), (tA, .inl (cB, 400, .inl f))] (some (.int (iI ((zDg nn f i).1)))) [(mm, .inr (4, [.int (iI fa), .ref tA, .int (iI ((nn : Int))), .int (iI pl), .int (iI yr), .int (iI mn), .int (iI dy), .int (iI ((((zDg nn f i).2 : Nat) : Int))), .ref oA, .ref sA, .ref eA, .ref gA, .ref cA, .ref rA, .ref fA])), (tA, .inl (cB, 400, .inl f))] := by
  refine mMet_of (by decide) (Nat.le_of_ble_eq_true rfl) ?_
  intro p e s m below meth c hx hb hr hown hlk hml hk hK hP hD hS ls hl
  have hl : lv_has ls 5 [(0, .ref mm), (1, .int (iI lo)), (2, .int (iI hi))] := hl
  have gP := zPk_b nn f i
  refine lv_aload_n hx hb d_Ref_ranged_0 rfl (lv_at hl 0 rfl) ?_
  refine g_get hx hb hk hown hK hP 0 rfl f_Ref_78 rfl d_Ref_ranged_1 ?_
  refine lv_istore_n (lv' := [(3, .int (iI ((i : Int)))), (0, .ref mm), (1, .int (iI lo)), (2, .int (iI hi))]) hx hb d_Ref_ranged_4 rfl hl (by decide) rfl (fun ls hl => ?_)
  refine lv_aload_n hx hb d_Ref_ranged_5 rfl (lv_at hl 1 rfl) ?_
  refine p_callV (rest := []) (q0 := 0) hx hb (hml.trans hl.1.symm) hown hk hK k_Ref_84 (ct_Ref_peek l D tys mm tA oA sA eA gA cA rA fA fa nn pl yr mn dy i cB f hty (by omega) (by omega)) (w_subP (is := [0, 1]) hP rfl) (w_subD (is := [0, 1]) hD rfl rfl) rfl rfl rfl rfl ⟨rfl, rfl⟩ ⟨by decide, by decide, by decide, by decide⟩ (Nat.le_of_ble_eq_true rfl) d_Ref_ranged_6 ?_
  refine p_callS (rest := []) hx hb (hml.trans hl.1.symm) hown hk hK k_Ref_92 (ct_Ref_digit l D tys (zPk nn f i) (by omega) (by omega)) nil_P nil_D rfl rfl ⟨rfl, rfl⟩ ⟨by decide, by decide, by decide, by decide⟩ (Nat.le_of_ble_eq_true rfl) d_Ref_ranged_9 ?_
  have gB := bI_b (zDigB (zPk nn f i))
  refine ri_if_ne (tgt := 23) hx hb d_Ref_ranged_12 (by decide) (fun h12 => ?_) (fun h12 => ?_)
  · have gd := zDigB_t h12
    have gl : i < nn := zPk_lt (f := f) (by omega)
    refine lv_iconst (v := iI 0) hx hb d_Ref_ranged_23 rfl ?_
    refine lv_istore (lv' := [(4, .int (iI 0)), (3, .int (iI ((i : Int)))), (0, .ref mm), (1, .int (iI lo)), (2, .int (iI hi))]) hx hb d_Ref_ranged_24 hl (by decide) rfl (fun ls hl => ?_)
    refine lv_aload_n hx hb d_Ref_ranged_26 rfl (lv_at hl 2 rfl) ?_
    refine p_callV (rest := []) (q0 := 0) hx hb (hml.trans hl.1.symm) hown hk hK k_Ref_84 (ct_Ref_peek l D tys mm tA oA sA eA gA cA rA fA fa nn pl yr mn dy i cB f hty (by omega) (by omega)) (w_subP (is := [0, 1]) hP rfl) (w_subD (is := [0, 1]) hD rfl rfl) rfl rfl rfl rfl ⟨rfl, rfl⟩ ⟨by decide, by decide, by decide, by decide⟩ (Nat.le_of_ble_eq_true rfl) d_Ref_ranged_27 ?_
    refine lv_bipush (v := iI 48) hx hb d_Ref_ranged_30 (by decide) ?_
    refine ri_icmp_ne (tgt := 48) hx hb d_Ref_ranged_32 (by decide) (fun h32 => ?_) (fun h32 => ?_)
    · have loop48 : ∀ (n : Nat) (j : Nat) (v : Int) (ls : Array Slot) (H : Heap) (locs : List Loc), (j ≤ nn) → (0 ≤ v) → (v ≤ 100000) → (zDg nn f i = zRun f (nn - j) j v) → nn - j = n → va_P D vwCl [(mm, .inr (4, [.int (iI fa), .ref tA, .int (iI ((nn : Int))), .int (iI pl), .int (iI yr), .int (iI mn), .int (iI dy), .int (iI ((j : Int))), .ref oA, .ref sA, .ref eA, .ref gA, .ref cA, .ref rA, .ref fA])), (tA, .inl (cB, 400, .inl f))] H → va_D (wA [(mm, .inr (4, [.int (iI fa), .ref tA, .int (iI ((nn : Int))), .int (iI pl), .int (iI yr), .int (iI mn), .int (iI dy), .int (iI ((i : Int))), .ref oA, .ref sA, .ref eA, .ref gA, .ref cA, .ref rA, .ref fA])), (tA, .inl (cB, 400, .inl f))]) [(mm, .inr (4, [.int (iI fa), .ref tA, .int (iI ((nn : Int))), .int (iI pl), .int (iI yr), .int (iI mn), .int (iI dy), .int (iI ((j : Int))), .ref oA, .ref sA, .ref eA, .ref gA, .ref cA, .ref rA, .ref fA])), (tA, .inl (cB, 400, .inl f))] → va_S (wA [(mm, .inr (4, [.int (iI fa), .ref tA, .int (iI ((nn : Int))), .int (iI pl), .int (iI yr), .int (iI mn), .int (iI dy), .int (iI ((i : Int))), .ref oA, .ref sA, .ref eA, .ref gA, .ref cA, .ref rA, .ref fA])), (tA, .inl (cB, 400, .inl f))]) s.heap H locs → lv_has ls 5 [(4, .int (iI v)), (3, .int (iI ((i : Int)))), (0, .ref mm), (1, .int (iI lo)), (2, .int (iI hi))] → W p l e rm_Ref_ranged s m ([.ref mm, .int (iI lo), .int (iI hi)] : List Value).toArray below meth c H locs 0 0 (MQ below (mQ D [(mm, .inr (4, [.int (iI fa), .ref tA, .int (iI ((nn : Int))), .int (iI pl), .int (iI yr), .int (iI mn), .int (iI dy), .int (iI ((i : Int))), .ref oA, .ref sA, .ref eA, .ref gA, .ref cA, .ref rA, .ref fA])), (tA, .inl (cB, 400, .inl f))] (some (.int (iI ((zDg nn f i).1)))) [(mm, .inr (4, [.int (iI fa), .ref tA, .int (iI ((nn : Int))), .int (iI pl), .int (iI yr), .int (iI mn), .int (iI dy), .int (iI ((((zDg nn f i).2 : Nat) : Int))), .ref oA, .ref sA, .ref eA, .ref gA, .ref cA, .ref rA, .ref fA])), (tA, .inl (cB, 400, .inl f))]) ([.ref mm, .int (iI lo), .int (iI hi)] : List Value).toArray s 0 0 (wA [(mm, .inr (4, [.int (iI fa), .ref tA, .int (iI ((nn : Int))), .int (iI pl), .int (iI yr), .int (iI mn), .int (iI dy), .int (iI ((i : Int))), .ref oA, .ref sA, .ref eA, .ref gA, .ref cA, .ref rA, .ref fA])), (tA, .inl (cB, 400, .inl f))])) (F0 m 48 ls []) := by
        intro n
        induction n using Nat.strongRecOn with
        | _ n ih =>
        intro j v ls H locs hj hv1 hv2 hv hn hP hD hS hl
        have gP2 := zPk_b nn f j
        refine lv_aload_n hx hb d_Ref_ranged_48 rfl (lv_at hl 2 rfl) ?_
        refine p_callV (rest := []) (q0 := 0) hx hb (hml.trans hl.1.symm) hown hk hK k_Ref_84 (ct_Ref_peek l D tys mm tA oA sA eA gA cA rA fA fa nn pl yr mn dy j cB f hty (by omega) (by omega)) (w_subP (is := [0, 1]) hP rfl) (w_subD (is := [0, 1]) hD rfl rfl) rfl rfl rfl rfl ⟨rfl, rfl⟩ ⟨by decide, by decide, by decide, by decide⟩ (Nat.le_of_ble_eq_true rfl) d_Ref_ranged_49 ?_
        refine p_callS (rest := []) hx hb (hml.trans hl.1.symm) hown hk hK k_Ref_92 (ct_Ref_digit l D tys (zPk nn f j) (by omega) (by omega)) nil_P nil_D rfl rfl ⟨rfl, rfl⟩ ⟨by decide, by decide, by decide, by decide⟩ (Nat.le_of_ble_eq_true rfl) d_Ref_ranged_52 ?_
        have gB := bI_b (zDigB (zPk nn f j))
        refine ri_if_eq (tgt := 91) hx hb d_Ref_ranged_55 (by decide) (fun h55 => ?_) (fun h55 => ?_)
        · have hR : zDg nn f i = (v, j) := by
            rw [hv]
            by_cases hjn : j < nn
            · exact zRun_at (f := f) (n := nn) (j := j) hjn (by rw [← zPk_in (n := nn) (f := f) (i := j) hjn]; exact zDigB_f h55)
            · exact zRun_end (f := f) (n := nn) (j := j) (by omega)
          rw [hR] at gq
          simp only at gq
          refine lv_iload hx hb d_Ref_ranged_91 (lv_at hl 0 rfl) ?_
          refine lv_iload_n hx hb d_Ref_ranged_93 rfl (lv_at hl 3 rfl) ?_
          refine ri_icmp_lt (tgt := 103) hx hb d_Ref_ranged_94 (by decide) (fun h94 => ?_) (fun h94 => ?_)
          · exfalso; omega
          · refine lv_iload hx hb d_Ref_ranged_97 (lv_at hl 0 rfl) ?_
            refine lv_iload_n hx hb d_Ref_ranged_99 rfl (lv_at hl 4 rfl) ?_
            refine ri_icmp_le (tgt := 108) hx hb d_Ref_ranged_100 (by decide) (fun h100 => ?_) (fun h100 => ?_)
            · refine lv_iload hx hb d_Ref_ranged_108 (lv_at hl 0 rfl) ?_
              exact m_iret hx hb hr hlk hP hS d_Ref_ranged_110 (by rw [hR]) (by rw [hR])
            · exfalso; omega
        · have ge := zDigB_t h55
          have gj : j < nn := zPk_lt (f := f) (by omega)
          refine lv_bipush (v := iI 10) hx hb d_Ref_ranged_58 (by decide) ?_
          refine lv_iload hx hb d_Ref_ranged_60 (lv_at hl 0 rfl) ?_
          refine ri_imul hx hb d_Ref_ranged_62 ?_
          refine lv_aload_n hx hb d_Ref_ranged_63 rfl (lv_at hl 2 rfl) ?_
          refine p_callV (rest := [.int (iI (10 * v))]) (q0 := 0) hx hb (hml.trans hl.1.symm) hown hk hK k_Ref_84 (ct_Ref_peek l D tys mm tA oA sA eA gA cA rA fA fa nn pl yr mn dy j cB f hty (by omega) (by omega)) (w_subP (is := [0, 1]) hP rfl) (w_subD (is := [0, 1]) hD rfl rfl) rfl rfl rfl rfl ⟨rfl, rfl⟩ ⟨by decide, by decide, by decide, by decide⟩ (Nat.le_of_ble_eq_true rfl) d_Ref_ranged_64 ?_
          refine ri_iadd hx hb d_Ref_ranged_67 ?_
          refine lv_bipush (v := iI 48) hx hb d_Ref_ranged_68 (by decide) ?_
          refine ri_isub hx hb d_Ref_ranged_70 ?_
          refine lv_ldc (v := iI 100000) hx hb hown (hk _ kc_Ref_95 _) d_Ref_ranged_71 ?_
          refine p_callS (rest := []) hx hb (hml.trans hl.1.symm) hown hk hK k_Ref_96 (ct_Math_minI l D tys (((10 * v) + (zPk nn f j)) - 48) 100000 (by omega) (by omega) (by omega) (by omega)) nil_P nil_D rfl rfl ⟨rfl, rfl⟩ ⟨by decide, by decide, by decide, by decide⟩ (Nat.le_of_ble_eq_true rfl) d_Ref_ranged_73 ?_
          refine lv_istore (lv' := [(4, .int (iI (min (((10 * v) + (zPk nn f j)) - 48) 100000))), (3, .int (iI ((i : Int)))), (0, .ref mm), (1, .int (iI lo)), (2, .int (iI hi))]) hx hb d_Ref_ranged_76 hl (by decide) rfl (fun ls hl => ?_)
          refine lv_aload_n hx hb d_Ref_ranged_78 rfl (lv_at hl 2 rfl) ?_
          refine lv_dup hx hb d_Ref_ranged_79 rfl ?_
          refine g_get hx hb hk hown hK hP 0 rfl f_Ref_78 rfl d_Ref_ranged_80 ?_
          refine lv_iconst (v := iI 1) hx hb d_Ref_ranged_83 rfl ?_
          refine ri_iadd hx hb d_Ref_ranged_84 ?_
          refine ri_i (show ((j : Int)) + 1 = ((j + 1 : Nat) : Int) from by omega) ?_
          refine g_put hx hb hk hown hK hP hD hS 0 rfl f_Ref_78 fT_Ref rfl (rfl) rfl (Nat.le_of_ble_eq_true rfl) d_Ref_ranged_85 (fun H locs hP hD hS => ?_)
          have hP : va_P D vwCl [(mm, .inr (4, [.int (iI fa), .ref tA, .int (iI ((nn : Int))), .int (iI pl), .int (iI yr), .int (iI mn), .int (iI dy), .int (iI (((j + 1 : Nat) : Int))), .ref oA, .ref sA, .ref eA, .ref gA, .ref cA, .ref rA, .ref fA])), (tA, .inl (cB, 400, .inl f))] H := hP
          have hD : va_D (wA [(mm, .inr (4, [.int (iI fa), .ref tA, .int (iI ((nn : Int))), .int (iI pl), .int (iI yr), .int (iI mn), .int (iI dy), .int (iI ((i : Int))), .ref oA, .ref sA, .ref eA, .ref gA, .ref cA, .ref rA, .ref fA])), (tA, .inl (cB, 400, .inl f))]) [(mm, .inr (4, [.int (iI fa), .ref tA, .int (iI ((nn : Int))), .int (iI pl), .int (iI yr), .int (iI mn), .int (iI dy), .int (iI (((j + 1 : Nat) : Int))), .ref oA, .ref sA, .ref eA, .ref gA, .ref cA, .ref rA, .ref fA])), (tA, .inl (cB, 400, .inl f))] := hD
          refine lv_goto (tgt := 48) hx hb d_Ref_ranged_88 (by decide) ?_
          exact ih _ (by omega) (j + 1) (min (((10 * v) + (zPk nn f j)) - 48) 100000) ls _ _ gj (by omega) (by omega) (by rw [hv, zRun_go (f := f) (n := nn) (j := j) gj (by rw [← zPk_in (n := nn) (f := f) (i := j) gj]; exact ge), zPk_in (n := nn) (f := f) (i := j) gj, Int.mul_comm v 10]) rfl hP hD hS (lv_sub hl [0, 1, 2, 3, 4] rfl)
      exact loop48 _ i 0 ls _ _ (by omega) (by omega) (by omega) (by rw [zDg_r gd h32, zRun_go (f := f) (n := nn) (j := i) gl (by rw [← zPk_in (n := nn) (f := f) (i := i) gl]; exact gd), zPk_in (n := nn) (f := f) (i := i) gl, show min (0 * 10 + tv (f i) - 48) 100000 = tv (f i) - 48 from by have := tv_b (f i); omega]) rfl hP hD hS (lv_sub hl [0, 1, 2, 3, 4] rfl)
    · refine lv_aload_n hx hb d_Ref_ranged_35 rfl (lv_at hl 2 rfl) ?_
      refine lv_dup hx hb d_Ref_ranged_36 rfl ?_
      refine g_get hx hb hk hown hK hP 0 rfl f_Ref_78 rfl d_Ref_ranged_37 ?_
      refine lv_iconst (v := iI 1) hx hb d_Ref_ranged_40 rfl ?_
      refine ri_iadd hx hb d_Ref_ranged_41 ?_
      refine ri_i (show ((i : Int)) + 1 = ((i + 1 : Nat) : Int) from by omega) ?_
      refine g_put hx hb hk hown hK hP hD hS 0 rfl f_Ref_78 fT_Ref rfl (rfl) rfl (Nat.le_of_ble_eq_true rfl) d_Ref_ranged_42 (fun H locs hP hD hS => ?_)
      have hP : va_P D vwCl [(mm, .inr (4, [.int (iI fa), .ref tA, .int (iI ((nn : Int))), .int (iI pl), .int (iI yr), .int (iI mn), .int (iI dy), .int (iI (((i + 1 : Nat) : Int))), .ref oA, .ref sA, .ref eA, .ref gA, .ref cA, .ref rA, .ref fA])), (tA, .inl (cB, 400, .inl f))] H := hP
      have hD : va_D (wA [(mm, .inr (4, [.int (iI fa), .ref tA, .int (iI ((nn : Int))), .int (iI pl), .int (iI yr), .int (iI mn), .int (iI dy), .int (iI ((i : Int))), .ref oA, .ref sA, .ref eA, .ref gA, .ref cA, .ref rA, .ref fA])), (tA, .inl (cB, 400, .inl f))]) [(mm, .inr (4, [.int (iI fa), .ref tA, .int (iI ((nn : Int))), .int (iI pl), .int (iI yr), .int (iI mn), .int (iI dy), .int (iI (((i + 1 : Nat) : Int))), .ref oA, .ref sA, .ref eA, .ref gA, .ref cA, .ref rA, .ref fA])), (tA, .inl (cB, 400, .inl f))] := hD
      refine lv_goto (tgt := 91) hx hb d_Ref_ranged_45 (by decide) ?_
      have hR : zDg nn f i = (0, i + 1) := zDg_0 h32
      rw [hR] at gq
      simp only at gq
      refine lv_iload hx hb d_Ref_ranged_91 (lv_at hl 0 rfl) ?_
      refine lv_iload_n hx hb d_Ref_ranged_93 rfl (lv_at hl 3 rfl) ?_
      refine ri_icmp_lt (tgt := 103) hx hb d_Ref_ranged_94 (by decide) (fun h94 => ?_) (fun h94 => ?_)
      · exfalso; omega
      · refine lv_iload hx hb d_Ref_ranged_97 (lv_at hl 0 rfl) ?_
        refine lv_iload_n hx hb d_Ref_ranged_99 rfl (lv_at hl 4 rfl) ?_
        refine ri_icmp_le (tgt := 108) hx hb d_Ref_ranged_100 (by decide) (fun h100 => ?_) (fun h100 => ?_)
        · refine lv_iload hx hb d_Ref_ranged_108 (lv_at hl 0 rfl) ?_
          exact m_iret hx hb hr hlk hP hS d_Ref_ranged_110 (by rw [hR]) (by rw [hR])
        · exfalso; omega
  · exfalso; (rw [zDg_no (zDigB_f h12)] at gq; simp only at gq; omega)
abbrev rm_Ref_ranged_x : Room := { frames := 7, cells := 1, slots := 6, locals := 121 }
set_option maxHeartbeats 4000000 in
set_option maxRecDepth 100000 in
theorem ct_Ref_ranged_x (l : Launch) (D : va_G) (tys : List (ClassId × FieldType)) (aS : Nat) (hoff : l.stackTraces = false) (mm : Nat) (tA : Nat) (oA : Nat) (sA : Nat) (eA : Nat) (gA : Nat) (cA : Nat) (rA : Nat) (fA : Nat) (fa : Int) (nn : Nat) (pl : Int) (yr : Int) (mn : Int) (dy : Int) (i : Nat) (cB : ClassId) (f : Nat → Int32) (lo : Int) (hi : Int) (hty : tys[0]? = some (cB, .byte)) (gn : nn ≤ 400) (gi : i ≤ nn) (gl1 : 0 ≤ lo) (gl2 : lo ≤ 100000) (gh1 : 0 ≤ hi) (gh2 : hi ≤ 100000) (gq : (zDg nn f i).1 < lo ∨ hi < (zDg nn f i).1) : xMet l y_Ref_ranged c_Ref_ranged 5 (some .int) rm_Ref_ranged_x D tys aS [.ref mm, .int (iI lo), .int (iI hi)] [(mm, .inr (4, [.int (iI fa), .ref tA, .int (iI ((nn : Int))), .int (iI pl), .int (iI yr), .int (iI mn), .int (iI dy), .int (iI ((i : Int))), .ref oA, .ref sA, .ref eA, .ref gA, .ref cA, .ref rA, .ref fA])), (tA, .inl (cB, 400, .inl f))] none "java/lang/UnsupportedOperationException" [(mm, .inr (4, [.int (iI fa), .ref tA, .int (iI ((nn : Int))), .int (iI ((i : Int))), .int (iI yr), .int (iI mn), .int (iI dy), .int (iI ((((zDg nn f i).2 : Nat) : Int))), .ref oA, .ref sA, .ref eA, .ref gA, .ref cA, .ref rA, .ref fA])), (tA, .inl (cB, 400, .inl f))] := by
  refine xMet_of (by decide) (Nat.le_of_ble_eq_true rfl) ?_
  intro p e s m below meth c hx hb hr hown hlk hml hE hk hK hP hD hS hAS hZ ls hl
  have hl : lv_has ls 5 [(0, .ref mm), (1, .int (iI lo)), (2, .int (iI hi))] := hl
  have gP := zPk_b nn f i
  refine lv_aload_n hx hb d_Ref_ranged_0 rfl (lv_at hl 0 rfl) ?_
  refine g_get hx hb hk hown hK hP 0 rfl f_Ref_78 rfl d_Ref_ranged_1 ?_
  refine lv_istore_n (lv' := [(3, .int (iI ((i : Int)))), (0, .ref mm), (1, .int (iI lo)), (2, .int (iI hi))]) hx hb d_Ref_ranged_4 rfl hl (by decide) rfl (fun ls hl => ?_)
  refine lv_aload_n hx hb d_Ref_ranged_5 rfl (lv_at hl 1 rfl) ?_
  refine p_callV (rest := []) (q0 := 0) hx hb (hml.trans hl.1.symm) hown hk hK k_Ref_84 (ct_Ref_peek l D tys mm tA oA sA eA gA cA rA fA fa nn pl yr mn dy i cB f hty (by omega) (by omega)) (w_subP (is := [0, 1]) hP rfl) (w_subD (is := [0, 1]) hD rfl rfl) rfl rfl rfl rfl ⟨rfl, rfl⟩ ⟨by decide, by decide, by decide, by decide⟩ (Nat.le_of_ble_eq_true rfl) d_Ref_ranged_6 ?_
  refine p_callS (rest := []) hx hb (hml.trans hl.1.symm) hown hk hK k_Ref_92 (ct_Ref_digit l D tys (zPk nn f i) (by omega) (by omega)) nil_P nil_D rfl rfl ⟨rfl, rfl⟩ ⟨by decide, by decide, by decide, by decide⟩ (Nat.le_of_ble_eq_true rfl) d_Ref_ranged_9 ?_
  have gB := bI_b (zDigB (zPk nn f i))
  refine ri_if_ne (tgt := 23) hx hb d_Ref_ranged_12 (by decide) (fun h12 => ?_) (fun h12 => ?_)
  · have gd := zDigB_t h12
    have gl : i < nn := zPk_lt (f := f) (by omega)
    refine lv_iconst (v := iI 0) hx hb d_Ref_ranged_23 rfl ?_
    refine lv_istore (lv' := [(4, .int (iI 0)), (3, .int (iI ((i : Int)))), (0, .ref mm), (1, .int (iI lo)), (2, .int (iI hi))]) hx hb d_Ref_ranged_24 hl (by decide) rfl (fun ls hl => ?_)
    refine lv_aload_n hx hb d_Ref_ranged_26 rfl (lv_at hl 2 rfl) ?_
    refine p_callV (rest := []) (q0 := 0) hx hb (hml.trans hl.1.symm) hown hk hK k_Ref_84 (ct_Ref_peek l D tys mm tA oA sA eA gA cA rA fA fa nn pl yr mn dy i cB f hty (by omega) (by omega)) (w_subP (is := [0, 1]) hP rfl) (w_subD (is := [0, 1]) hD rfl rfl) rfl rfl rfl rfl ⟨rfl, rfl⟩ ⟨by decide, by decide, by decide, by decide⟩ (Nat.le_of_ble_eq_true rfl) d_Ref_ranged_27 ?_
    refine lv_bipush (v := iI 48) hx hb d_Ref_ranged_30 (by decide) ?_
    refine ri_icmp_ne (tgt := 48) hx hb d_Ref_ranged_32 (by decide) (fun h32 => ?_) (fun h32 => ?_)
    · have loop48 : ∀ (n : Nat) (j : Nat) (v : Int) (ls : Array Slot) (H : Heap) (locs : List Loc), (j ≤ nn) → (0 ≤ v) → (v ≤ 100000) → (zDg nn f i = zRun f (nn - j) j v) → nn - j = n → va_P D vwCl [(mm, .inr (4, [.int (iI fa), .ref tA, .int (iI ((nn : Int))), .int (iI pl), .int (iI yr), .int (iI mn), .int (iI dy), .int (iI ((j : Int))), .ref oA, .ref sA, .ref eA, .ref gA, .ref cA, .ref rA, .ref fA])), (tA, .inl (cB, 400, .inl f))] H → va_D (wA [(mm, .inr (4, [.int (iI fa), .ref tA, .int (iI ((nn : Int))), .int (iI pl), .int (iI yr), .int (iI mn), .int (iI dy), .int (iI ((i : Int))), .ref oA, .ref sA, .ref eA, .ref gA, .ref cA, .ref rA, .ref fA])), (tA, .inl (cB, 400, .inl f))]) [(mm, .inr (4, [.int (iI fa), .ref tA, .int (iI ((nn : Int))), .int (iI pl), .int (iI yr), .int (iI mn), .int (iI dy), .int (iI ((j : Int))), .ref oA, .ref sA, .ref eA, .ref gA, .ref cA, .ref rA, .ref fA])), (tA, .inl (cB, 400, .inl f))] → va_S (wA [(mm, .inr (4, [.int (iI fa), .ref tA, .int (iI ((nn : Int))), .int (iI pl), .int (iI yr), .int (iI mn), .int (iI dy), .int (iI ((i : Int))), .ref oA, .ref sA, .ref eA, .ref gA, .ref cA, .ref rA, .ref fA])), (tA, .inl (cB, 400, .inl f))]) s.heap H locs → lv_has ls 5 [(4, .int (iI v)), (3, .int (iI ((i : Int)))), (0, .ref mm), (1, .int (iI lo)), (2, .int (iI hi))] → W p l e rm_Ref_ranged_x s m ([.ref mm, .int (iI lo), .int (iI hi)] : List Value).toArray below meth c H locs 0 0 (xMQ below (xQ D [(mm, .inr (4, [.int (iI fa), .ref tA, .int (iI ((nn : Int))), .int (iI pl), .int (iI yr), .int (iI mn), .int (iI dy), .int (iI ((i : Int))), .ref oA, .ref sA, .ref eA, .ref gA, .ref cA, .ref rA, .ref fA])), (tA, .inl (cB, 400, .inl f))] none "java/lang/UnsupportedOperationException" [(mm, .inr (4, [.int (iI fa), .ref tA, .int (iI ((nn : Int))), .int (iI ((i : Int))), .int (iI yr), .int (iI mn), .int (iI dy), .int (iI ((((zDg nn f i).2 : Nat) : Int))), .ref oA, .ref sA, .ref eA, .ref gA, .ref cA, .ref rA, .ref fA])), (tA, .inl (cB, 400, .inl f))]) ([.ref mm, .int (iI lo), .int (iI hi)] : List Value).toArray s [(mm, .inr (4, [.int (iI fa), .ref tA, .int (iI ((nn : Int))), .int (iI pl), .int (iI yr), .int (iI mn), .int (iI dy), .int (iI ((i : Int))), .ref oA, .ref sA, .ref eA, .ref gA, .ref cA, .ref rA, .ref fA])), (tA, .inl (cB, 400, .inl f))]) (F0 m 48 ls []) := by
        intro n
        induction n using Nat.strongRecOn with
        | _ n ih =>
        intro j v ls H locs hj hv1 hv2 hv hn hP hD hS hl
        have gP2 := zPk_b nn f j
        refine lv_aload_n hx hb d_Ref_ranged_48 rfl (lv_at hl 2 rfl) ?_
        refine p_callV (rest := []) (q0 := 0) hx hb (hml.trans hl.1.symm) hown hk hK k_Ref_84 (ct_Ref_peek l D tys mm tA oA sA eA gA cA rA fA fa nn pl yr mn dy j cB f hty (by omega) (by omega)) (w_subP (is := [0, 1]) hP rfl) (w_subD (is := [0, 1]) hD rfl rfl) rfl rfl rfl rfl ⟨rfl, rfl⟩ ⟨by decide, by decide, by decide, by decide⟩ (Nat.le_of_ble_eq_true rfl) d_Ref_ranged_49 ?_
        refine p_callS (rest := []) hx hb (hml.trans hl.1.symm) hown hk hK k_Ref_92 (ct_Ref_digit l D tys (zPk nn f j) (by omega) (by omega)) nil_P nil_D rfl rfl ⟨rfl, rfl⟩ ⟨by decide, by decide, by decide, by decide⟩ (Nat.le_of_ble_eq_true rfl) d_Ref_ranged_52 ?_
        have gB := bI_b (zDigB (zPk nn f j))
        refine ri_if_eq (tgt := 91) hx hb d_Ref_ranged_55 (by decide) (fun h55 => ?_) (fun h55 => ?_)
        · have hR : zDg nn f i = (v, j) := by
            rw [hv]
            by_cases hjn : j < nn
            · exact zRun_at (f := f) (n := nn) (j := j) hjn (by rw [← zPk_in (n := nn) (f := f) (i := j) hjn]; exact zDigB_f h55)
            · exact zRun_end (f := f) (n := nn) (j := j) (by omega)
          rw [hR] at gq
          simp only at gq
          refine lv_iload hx hb d_Ref_ranged_91 (lv_at hl 0 rfl) ?_
          refine lv_iload_n hx hb d_Ref_ranged_93 rfl (lv_at hl 3 rfl) ?_
          refine ri_icmp_lt (tgt := 103) hx hb d_Ref_ranged_94 (by decide) (fun h94 => ?_) (fun h94 => ?_)
          · refine lv_aload_n hx hb d_Ref_ranged_103 rfl (lv_at hl 2 rfl) ?_
            refine lv_iload_n hx hb d_Ref_ranged_104 rfl (lv_at hl 1 rfl) ?_
            exact x_thr (x_runV (rest := []) (q0 := 0) hx hb (hml.trans hl.1.symm) hown hk hK k_Ref_88 (ct_Ref_bad l D tys aS hoff mm tA oA sA eA gA cA rA fA fa nn pl yr mn dy j ((i : Int)) ) (w_subP (is := [0]) hP rfl) (x_subD (is := [0]) hD hAS rfl rfl) (x_zH hZ hS hAS) rfl rfl rfl rfl ⟨by decide, by decide, by decide, by decide⟩ (Nat.le_of_ble_eq_true rfl) d_Ref_ranged_105) hE hlk hP hD hS [0] rfl rfl (by rw [hR]; rfl) rfl
          · refine lv_iload hx hb d_Ref_ranged_97 (lv_at hl 0 rfl) ?_
            refine lv_iload_n hx hb d_Ref_ranged_99 rfl (lv_at hl 4 rfl) ?_
            refine ri_icmp_le (tgt := 108) hx hb d_Ref_ranged_100 (by decide) (fun h100 => ?_) (fun h100 => ?_)
            · exfalso; omega
            · refine lv_aload_n hx hb d_Ref_ranged_103 rfl (lv_at hl 2 rfl) ?_
              refine lv_iload_n hx hb d_Ref_ranged_104 rfl (lv_at hl 1 rfl) ?_
              exact x_thr (x_runV (rest := []) (q0 := 0) hx hb (hml.trans hl.1.symm) hown hk hK k_Ref_88 (ct_Ref_bad l D tys aS hoff mm tA oA sA eA gA cA rA fA fa nn pl yr mn dy j ((i : Int)) ) (w_subP (is := [0]) hP rfl) (x_subD (is := [0]) hD hAS rfl rfl) (x_zH hZ hS hAS) rfl rfl rfl rfl ⟨by decide, by decide, by decide, by decide⟩ (Nat.le_of_ble_eq_true rfl) d_Ref_ranged_105) hE hlk hP hD hS [0] rfl rfl (by rw [hR]; rfl) rfl
        · have ge := zDigB_t h55
          have gj : j < nn := zPk_lt (f := f) (by omega)
          refine lv_bipush (v := iI 10) hx hb d_Ref_ranged_58 (by decide) ?_
          refine lv_iload hx hb d_Ref_ranged_60 (lv_at hl 0 rfl) ?_
          refine ri_imul hx hb d_Ref_ranged_62 ?_
          refine lv_aload_n hx hb d_Ref_ranged_63 rfl (lv_at hl 2 rfl) ?_
          refine p_callV (rest := [.int (iI (10 * v))]) (q0 := 0) hx hb (hml.trans hl.1.symm) hown hk hK k_Ref_84 (ct_Ref_peek l D tys mm tA oA sA eA gA cA rA fA fa nn pl yr mn dy j cB f hty (by omega) (by omega)) (w_subP (is := [0, 1]) hP rfl) (w_subD (is := [0, 1]) hD rfl rfl) rfl rfl rfl rfl ⟨rfl, rfl⟩ ⟨by decide, by decide, by decide, by decide⟩ (Nat.le_of_ble_eq_true rfl) d_Ref_ranged_64 ?_
          refine ri_iadd hx hb d_Ref_ranged_67 ?_
          refine lv_bipush (v := iI 48) hx hb d_Ref_ranged_68 (by decide) ?_
          refine ri_isub hx hb d_Ref_ranged_70 ?_
          refine lv_ldc (v := iI 100000) hx hb hown (hk _ kc_Ref_95 _) d_Ref_ranged_71 ?_
          refine p_callS (rest := []) hx hb (hml.trans hl.1.symm) hown hk hK k_Ref_96 (ct_Math_minI l D tys (((10 * v) + (zPk nn f j)) - 48) 100000 (by omega) (by omega) (by omega) (by omega)) nil_P nil_D rfl rfl ⟨rfl, rfl⟩ ⟨by decide, by decide, by decide, by decide⟩ (Nat.le_of_ble_eq_true rfl) d_Ref_ranged_73 ?_
          refine lv_istore (lv' := [(4, .int (iI (min (((10 * v) + (zPk nn f j)) - 48) 100000))), (3, .int (iI ((i : Int)))), (0, .ref mm), (1, .int (iI lo)), (2, .int (iI hi))]) hx hb d_Ref_ranged_76 hl (by decide) rfl (fun ls hl => ?_)
          refine lv_aload_n hx hb d_Ref_ranged_78 rfl (lv_at hl 2 rfl) ?_
          refine lv_dup hx hb d_Ref_ranged_79 rfl ?_
          refine g_get hx hb hk hown hK hP 0 rfl f_Ref_78 rfl d_Ref_ranged_80 ?_
          refine lv_iconst (v := iI 1) hx hb d_Ref_ranged_83 rfl ?_
          refine ri_iadd hx hb d_Ref_ranged_84 ?_
          refine ri_i (show ((j : Int)) + 1 = ((j + 1 : Nat) : Int) from by omega) ?_
          refine g_put hx hb hk hown hK hP hD hS 0 rfl f_Ref_78 fT_Ref rfl (rfl) rfl (Nat.le_of_ble_eq_true rfl) d_Ref_ranged_85 (fun H locs hP hD hS => ?_)
          have hP : va_P D vwCl [(mm, .inr (4, [.int (iI fa), .ref tA, .int (iI ((nn : Int))), .int (iI pl), .int (iI yr), .int (iI mn), .int (iI dy), .int (iI (((j + 1 : Nat) : Int))), .ref oA, .ref sA, .ref eA, .ref gA, .ref cA, .ref rA, .ref fA])), (tA, .inl (cB, 400, .inl f))] H := hP
          have hD : va_D (wA [(mm, .inr (4, [.int (iI fa), .ref tA, .int (iI ((nn : Int))), .int (iI pl), .int (iI yr), .int (iI mn), .int (iI dy), .int (iI ((i : Int))), .ref oA, .ref sA, .ref eA, .ref gA, .ref cA, .ref rA, .ref fA])), (tA, .inl (cB, 400, .inl f))]) [(mm, .inr (4, [.int (iI fa), .ref tA, .int (iI ((nn : Int))), .int (iI pl), .int (iI yr), .int (iI mn), .int (iI dy), .int (iI (((j + 1 : Nat) : Int))), .ref oA, .ref sA, .ref eA, .ref gA, .ref cA, .ref rA, .ref fA])), (tA, .inl (cB, 400, .inl f))] := hD
          refine lv_goto (tgt := 48) hx hb d_Ref_ranged_88 (by decide) ?_
          exact ih _ (by omega) (j + 1) (min (((10 * v) + (zPk nn f j)) - 48) 100000) ls _ _ gj (by omega) (by omega) (by rw [hv, zRun_go (f := f) (n := nn) (j := j) gj (by rw [← zPk_in (n := nn) (f := f) (i := j) gj]; exact ge), zPk_in (n := nn) (f := f) (i := j) gj, Int.mul_comm v 10]) rfl hP hD hS (lv_sub hl [0, 1, 2, 3, 4] rfl)
      exact loop48 _ i 0 ls _ _ (by omega) (by omega) (by omega) (by rw [zDg_r gd h32, zRun_go (f := f) (n := nn) (j := i) gl (by rw [← zPk_in (n := nn) (f := f) (i := i) gl]; exact gd), zPk_in (n := nn) (f := f) (i := i) gl, show min (0 * 10 + tv (f i) - 48) 100000 = tv (f i) - 48 from by have := tv_b (f i); omega]) rfl hP hD hS (lv_sub hl [0, 1, 2, 3, 4] rfl)
    · refine lv_aload_n hx hb d_Ref_ranged_35 rfl (lv_at hl 2 rfl) ?_
      refine lv_dup hx hb d_Ref_ranged_36 rfl ?_
      refine g_get hx hb hk hown hK hP 0 rfl f_Ref_78 rfl d_Ref_ranged_37 ?_
      refine lv_iconst (v := iI 1) hx hb d_Ref_ranged_40 rfl ?_
      refine ri_iadd hx hb d_Ref_ranged_41 ?_
      refine ri_i (show ((i : Int)) + 1 = ((i + 1 : Nat) : Int) from by omega) ?_
      refine g_put hx hb hk hown hK hP hD hS 0 rfl f_Ref_78 fT_Ref rfl (rfl) rfl (Nat.le_of_ble_eq_true rfl) d_Ref_ranged_42 (fun H locs hP hD hS => ?_)
      have hP : va_P D vwCl [(mm, .inr (4, [.int (iI fa), .ref tA, .int (iI ((nn : Int))), .int (iI pl), .int (iI yr), .int (iI mn), .int (iI dy), .int (iI (((i + 1 : Nat) : Int))), .ref oA, .ref sA, .ref eA, .ref gA, .ref cA, .ref rA, .ref fA])), (tA, .inl (cB, 400, .inl f))] H := hP
      have hD : va_D (wA [(mm, .inr (4, [.int (iI fa), .ref tA, .int (iI ((nn : Int))), .int (iI pl), .int (iI yr), .int (iI mn), .int (iI dy), .int (iI ((i : Int))), .ref oA, .ref sA, .ref eA, .ref gA, .ref cA, .ref rA, .ref fA])), (tA, .inl (cB, 400, .inl f))]) [(mm, .inr (4, [.int (iI fa), .ref tA, .int (iI ((nn : Int))), .int (iI pl), .int (iI yr), .int (iI mn), .int (iI dy), .int (iI (((i + 1 : Nat) : Int))), .ref oA, .ref sA, .ref eA, .ref gA, .ref cA, .ref rA, .ref fA])), (tA, .inl (cB, 400, .inl f))] := hD
      refine lv_goto (tgt := 91) hx hb d_Ref_ranged_45 (by decide) ?_
      have hR : zDg nn f i = (0, i + 1) := zDg_0 h32
      rw [hR] at gq
      simp only at gq
      refine lv_iload hx hb d_Ref_ranged_91 (lv_at hl 0 rfl) ?_
      refine lv_iload_n hx hb d_Ref_ranged_93 rfl (lv_at hl 3 rfl) ?_
      refine ri_icmp_lt (tgt := 103) hx hb d_Ref_ranged_94 (by decide) (fun h94 => ?_) (fun h94 => ?_)
      · refine lv_aload_n hx hb d_Ref_ranged_103 rfl (lv_at hl 2 rfl) ?_
        refine lv_iload_n hx hb d_Ref_ranged_104 rfl (lv_at hl 1 rfl) ?_
        exact x_thr (x_runV (rest := []) (q0 := 0) hx hb (hml.trans hl.1.symm) hown hk hK k_Ref_88 (ct_Ref_bad l D tys aS hoff mm tA oA sA eA gA cA rA fA fa nn pl yr mn dy (i + 1) ((i : Int)) ) (w_subP (is := [0]) hP rfl) (x_subD (is := [0]) hD hAS rfl rfl) (x_zH hZ hS hAS) rfl rfl rfl rfl ⟨by decide, by decide, by decide, by decide⟩ (Nat.le_of_ble_eq_true rfl) d_Ref_ranged_105) hE hlk hP hD hS [0] rfl rfl (by rw [hR]; rfl) rfl
      · refine lv_iload hx hb d_Ref_ranged_97 (lv_at hl 0 rfl) ?_
        refine lv_iload_n hx hb d_Ref_ranged_99 rfl (lv_at hl 4 rfl) ?_
        refine ri_icmp_le (tgt := 108) hx hb d_Ref_ranged_100 (by decide) (fun h100 => ?_) (fun h100 => ?_)
        · exfalso; omega
        · refine lv_aload_n hx hb d_Ref_ranged_103 rfl (lv_at hl 2 rfl) ?_
          refine lv_iload_n hx hb d_Ref_ranged_104 rfl (lv_at hl 1 rfl) ?_
          exact x_thr (x_runV (rest := []) (q0 := 0) hx hb (hml.trans hl.1.symm) hown hk hK k_Ref_88 (ct_Ref_bad l D tys aS hoff mm tA oA sA eA gA cA rA fA fa nn pl yr mn dy (i + 1) ((i : Int)) ) (w_subP (is := [0]) hP rfl) (x_subD (is := [0]) hD hAS rfl rfl) (x_zH hZ hS hAS) rfl rfl rfl rfl ⟨by decide, by decide, by decide, by decide⟩ (Nat.le_of_ble_eq_true rfl) d_Ref_ranged_105) hE hlk hP hD hS [0] rfl rfl (by rw [hR]; rfl) rfl
  · refine lv_aload_n hx hb d_Ref_ranged_15 rfl (lv_at hl 1 rfl) ?_
    refine lv_aload_n hx hb d_Ref_ranged_16 rfl (lv_at hl 1 rfl) ?_
    refine g_get hx hb hk hown hK hP 0 rfl f_Ref_78 rfl d_Ref_ranged_17 ?_
    exact x_thr (x_runV (rest := []) (q0 := 0) hx hb (hml.trans hl.1.symm) hown hk hK k_Ref_88 (ct_Ref_bad l D tys aS hoff mm tA oA sA eA gA cA rA fA fa nn pl yr mn dy i ((i : Int)) ) (w_subP (is := [0]) hP rfl) (x_subD (is := [0]) hD hAS rfl rfl) (x_zH hZ hS hAS) rfl rfl rfl rfl ⟨by decide, by decide, by decide, by decide⟩ (Nat.le_of_ble_eq_true rfl) d_Ref_ranged_20) hE hlk hP hD hS [0] rfl rfl (by rw [zDg_no (zDigB_f h12)]; rfl) rfl
