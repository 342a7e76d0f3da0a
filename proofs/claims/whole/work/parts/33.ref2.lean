/-! Contracts: the reference's reading calls. By program (wip/whole/m_ref2.py). -/
abbrev rm_Ref_passed : Room := { frames := 0, cells := 0, slots := 0, locals := 0 }
set_option maxHeartbeats 4000000 in
set_option maxRecDepth 100000 in
theorem ct_Ref_passed (l : Launch) (D : va_G) (tys : List (ClassId × FieldType)) (mm : Nat) (tA : Nat) (oA : Nat) (sA : Nat) (eA : Nat) (gA : Nat) (cA : Nat) (rA : Nat) (fA : Nat) (fa : Int) (nn : Nat) (pl : Int) (yr : Int) (mn : Int) (dy : Int) (i : Nat) (cI : ClassId) (cJ : ClassId) (cG : ClassId) (cJJ : ClassId) (cGG : ClassId) (oI : Nat → Int) (sI : Nat → Int) (cN : Nat → Nat) (eR : Nat → Nat) (gR : Nat → Nat) (zi : Nat) (eF : Nat → Int) (gF : Nat → Bool) (t : Int) (hI : tys[1]? = some (cI, .int)) (hJ : tys[2]? = some (cJ, .long)) (hG : tys[3]? = some (cG, .boolean)) (hJJ : tys[5]? = some (cJJ, .array .long)) (hGG : tys[6]? = some (cGG, .array .boolean)) (gz : zi < 8) (gc : cN zi ≤ 660) (gE : ∀ k, k < 660 → -1000000000000000 ≤ eF k ∧ eF k ≤ 1000000000000000) (hs : evS (cN zi) eF gF) (gi1 : -100000000000000 ≤ t) (gi2 : t ≤ 100000000000000) : pMet l y_Ref_passed c_Ref_passed 7 (some .int) rm_Ref_passed D tys [.ref mm, .int (iI ((zi : Int))), .long (lL t)] [(mm, .inr (4, [.int (iI fa), .ref tA, .int (iI ((nn : Int))), .int (iI pl), .int (iI yr), .int (iI mn), .int (iI dy), .int (iI ((i : Int))), .ref oA, .ref sA, .ref eA, .ref gA, .ref cA, .ref rA, .ref fA])), (oA, .inl (cI, 8, .inl (fun j => iI (oI j)))), (sA, .inl (cI, 8, .inl (fun j => iI (sI j)))), (eA, .inl (cJJ, 8, .inr (.inr (.inr (.inr (fun k => some (eR k))))))), (gA, .inl (cGG, 8, .inr (.inr (.inr (.inr (fun k => some (gR k))))))), (cA, .inl (cI, 8, .inl (fun j => iI (cN j : Int)))), (eR zi, .inl (cJ, 660, .inr (.inl (fun j => lL (eF j))))), (gR zi, .inl (cG, 660, .inl (fun j => iI (bI (gF j)))))] (.int (iI (((evK eF t (cN zi) : Nat) : Int)))) := by
  refine pMet_of (by decide) (Nat.le_of_ble_eq_true rfl) ?_
  intro p e s m below meth c hx hb hr hown hlk hml hk hK hP hD ls hl
  have hl : lv_has ls 7 [(0, .ref mm), (1, .int (iI ((zi : Int)))), (2, .long (lL t))] := hl
  refine lv_iconst (v := iI 0) hx hb d_Ref_passed_0 rfl ?_
  refine ri_i (show 0 = (0 : Int) from rfl) ?_
  refine lv_istore (lv' := [(4, .int (iI ((0 : Int)))), (0, .ref mm), (1, .int (iI ((zi : Int)))), (2, .long (lL t))]) hx hb d_Ref_passed_1 hl (by decide) rfl (fun ls hl => ?_)
  refine lv_aload_n hx hb d_Ref_passed_3 rfl (lv_at hl 1 rfl) ?_
  refine g_get hx hb hk hown hK hP 0 rfl f_Ref_34 rfl d_Ref_passed_4 ?_
  refine lv_iload_n hx hb d_Ref_passed_7 rfl (lv_at hl 2 rfl) ?_
  refine g_iald (i := zi) hx hb hK hP 5 1 rfl hI d_Ref_passed_8 ?_
  refine lv_istore (lv' := [(5, .int (iI (((cN zi : Nat) : Int)))), (4, .int (iI ((0 : Int)))), (0, .ref mm), (1, .int (iI ((zi : Int)))), (2, .long (lL t))]) hx hb d_Ref_passed_9 hl (by decide) rfl (fun ls hl => ?_)
  have loop11 : ∀ (n : Nat) (a : Nat) (b : Nat) (ls : Array Slot), (a ≤ b) → (b ≤ cN zi) → (∀ k, k < a → eF k ≤ t) → (∀ k, b ≤ k → k < cN zi → t < eF k) → b - a = n → lv_has ls 7 [(4, .int (iI ((a : Int)))), (5, .int (iI ((b : Int)))), (0, .ref mm), (1, .int (iI ((zi : Int)))), (2, .long (lL t))] → W p l e rm_Ref_passed s m ([.ref mm, .int (iI ((zi : Int))), .long (lL t)] : List Value).toArray below meth c s.heap [] 0 0 (MQ below (pQ (.int (iI (((evK eF t (cN zi) : Nat) : Int))))) ([.ref mm, .int (iI ((zi : Int))), .long (lL t)] : List Value).toArray s 0 0 (fun _ => False)) (F0 m 11 ls []) := by
    intro n
    induction n using Nat.strongRecOn with
    | _ n ih =>
    intro a b ls hab hbc hlo hhi hn hl
    refine lv_iload hx hb d_Ref_passed_11 (lv_at hl 0 rfl) ?_
    refine lv_iload hx hb d_Ref_passed_13 (lv_at hl 1 rfl) ?_
    refine ri_icmp_ge (tgt := 57) hx hb d_Ref_passed_15 (by decide) (fun h15 => ?_) (fun h15 => ?_)
    · refine lv_iload hx hb d_Ref_passed_57 (lv_at hl 0 rfl) ?_
      exact p_iret hx hb hr hlk d_Ref_passed_59 (by rw [evK_of (k := a) (by omega) hlo (fun k h1 h2 => hhi k (by omega) h2)])
    · refine lv_iload hx hb d_Ref_passed_18 (lv_at hl 0 rfl) ?_
      refine lv_iload hx hb d_Ref_passed_20 (lv_at hl 1 rfl) ?_
      refine ri_iadd hx hb d_Ref_passed_22 ?_
      refine lv_iconst (v := iI 2) hx hb d_Ref_passed_23 rfl ?_
      refine ri_idiv hx hb d_Ref_passed_24 ?_
      refine ri_i (show (((a : Int)) + ((b : Int))) / 2 = (((a + b) / 2 : Nat) : Int) from by omega) ?_
      refine lv_istore (lv' := [(6, .int (iI ((((a + b) / 2 : Nat) : Int)))), (4, .int (iI ((a : Int)))), (5, .int (iI ((b : Int)))), (0, .ref mm), (1, .int (iI ((zi : Int)))), (2, .long (lL t))]) hx hb d_Ref_passed_25 hl (by decide) rfl (fun ls hl => ?_)
      refine lv_aload_n hx hb d_Ref_passed_27 rfl (lv_at hl 3 rfl) ?_
      refine g_get hx hb hk hown hK hP 0 rfl f_Ref_26 rfl d_Ref_passed_28 ?_
      refine lv_iload_n hx hb d_Ref_passed_31 rfl (lv_at hl 4 rfl) ?_
      refine g_aald (i := zi) hx hb hK hP 3 5 rfl hJJ rfl (rfl) d_Ref_passed_32 ?_
      refine lv_iload hx hb d_Ref_passed_33 (lv_at hl 0 rfl) ?_
      refine g_lald (i := (a + b) / 2) hx hb hK hP 6 2 rfl hJ d_Ref_passed_35 ?_ (by omega) (by decide)
      have gm := gE ((a + b) / 2) (by omega)
      refine lv_lload_n hx hb d_Ref_passed_36 rfl (lv_at hl 5 rfl) ?_
      refine ri_lcmp_gt (tgt := 50) hx hb d_Ref_passed_37 d_Ref_passed_38 (by decide) (fun h37 => ?_) (fun h37 => ?_)
      · refine lv_iload hx hb d_Ref_passed_50 (lv_at hl 0 rfl) ?_
        refine lv_istore (lv' := [(5, .int (iI ((((a + b) / 2 : Nat) : Int)))), (6, .int (iI ((((a + b) / 2 : Nat) : Int)))), (4, .int (iI ((a : Int)))), (0, .ref mm), (1, .int (iI ((zi : Int)))), (2, .long (lL t))]) hx hb d_Ref_passed_52 hl (by decide) rfl (fun ls hl => ?_)
        refine lv_goto (tgt := 11) hx hb d_Ref_passed_54 (by decide) ?_
        exact ih _ (by omega) a ((a + b) / 2) ls (by omega) (by omega) (by first | exact hlo | exact srch_lo (a := a) hs (by omega) h37) (by first | exact hhi | exact srch_hi hs h37) rfl (lv_sub hl [2, 0, 3, 4, 5] rfl)
      · refine lv_iload hx hb d_Ref_passed_41 (lv_at hl 0 rfl) ?_
        refine lv_iconst (v := iI 1) hx hb d_Ref_passed_43 rfl ?_
        refine ri_iadd hx hb d_Ref_passed_44 ?_
        refine ri_i (show ((((a + b) / 2 : Nat) : Int)) + 1 = (((a + b) / 2 + 1 : Nat) : Int) from by omega) ?_
        refine lv_istore (lv' := [(4, .int (iI ((((a + b) / 2 + 1 : Nat) : Int)))), (6, .int (iI ((((a + b) / 2 : Nat) : Int)))), (5, .int (iI ((b : Int)))), (0, .ref mm), (1, .int (iI ((zi : Int)))), (2, .long (lL t))]) hx hb d_Ref_passed_45 hl (by decide) rfl (fun ls hl => ?_)
        refine lv_goto (tgt := 54) hx hb d_Ref_passed_47 (by decide) ?_
        refine lv_goto (tgt := 11) hx hb d_Ref_passed_54 (by decide) ?_
        exact ih _ (by omega) ((a + b) / 2 + 1) b ls (by omega) (by omega) (by first | exact hlo | exact srch_lo (a := a) hs (by omega) h37) (by first | exact hhi | exact srch_hi hs h37) rfl (lv_sub hl [0, 2, 3, 4, 5] rfl)
  exact loop11 _ 0 (cN zi) ls (by omega) (by omega) (fun k hk => by omega) (fun k h1 h2 => by omega) rfl (lv_sub hl [1, 0, 2, 3, 4] rfl)
abbrev rm_Ref_minutes : Room := { frames := 0, cells := 0, slots := 0, locals := 0 }
set_option maxHeartbeats 4000000 in
set_option maxRecDepth 100000 in
theorem ct_Ref_minutes (l : Launch) (D : va_G) (tys : List (ClassId × FieldType)) (mm : Nat) (tA : Nat) (oA : Nat) (sA : Nat) (eA : Nat) (gA : Nat) (cA : Nat) (rA : Nat) (fA : Nat) (fa : Int) (nn : Nat) (pl : Int) (yr : Int) (mn : Int) (dy : Int) (i : Nat) (cI : ClassId) (cJ : ClassId) (cG : ClassId) (cJJ : ClassId) (cGG : ClassId) (oI : Nat → Int) (sI : Nat → Int) (cN : Nat → Nat) (eR : Nat → Nat) (gR : Nat → Nat) (zi : Nat) (eF : Nat → Int) (gF : Nat → Bool) (ev : Nat) (hI : tys[1]? = some (cI, .int)) (hJ : tys[2]? = some (cJ, .long)) (hG : tys[3]? = some (cG, .boolean)) (hJJ : tys[5]? = some (cJJ, .array .long)) (hGG : tys[6]? = some (cGG, .array .boolean)) (gz : zi < 8) (gev : ev ≤ 660) : pMet l y_Ref_minutes c_Ref_minutes 3 (some .int) rm_Ref_minutes D tys [.ref mm, .int (iI ((zi : Int))), .int (iI ((ev : Int)))] [(mm, .inr (4, [.int (iI fa), .ref tA, .int (iI ((nn : Int))), .int (iI pl), .int (iI yr), .int (iI mn), .int (iI dy), .int (iI ((i : Int))), .ref oA, .ref sA, .ref eA, .ref gA, .ref cA, .ref rA, .ref fA])), (oA, .inl (cI, 8, .inl (fun j => iI (oI j)))), (sA, .inl (cI, 8, .inl (fun j => iI (sI j)))), (eA, .inl (cJJ, 8, .inr (.inr (.inr (.inr (fun k => some (eR k))))))), (gA, .inl (cGG, 8, .inr (.inr (.inr (.inr (fun k => some (gR k))))))), (cA, .inl (cI, 8, .inl (fun j => iI (cN j : Int)))), (eR zi, .inl (cJ, 660, .inr (.inl (fun j => lL (eF j))))), (gR zi, .inl (cG, 660, .inl (fun j => iI (bI (gF j)))))] (.int (iI (rMin (oI zi) (sI zi) ev gF))) := by
  refine pMet_of (by decide) (Nat.le_of_ble_eq_true rfl) ?_
  intro p e s m below meth c hx hb hr hown hlk hml hk hK hP hD ls hl
  have hl : lv_has ls 3 [(0, .ref mm), (1, .int (iI ((zi : Int)))), (2, .int (iI ((ev : Int))))] := hl
  refine lv_aload_n hx hb d_Ref_minutes_0 rfl (lv_at hl 0 rfl) ?_
  refine g_get hx hb hk hown hK hP 0 rfl f_Ref_17 rfl d_Ref_minutes_1 ?_
  refine lv_iload_n hx hb d_Ref_minutes_4 rfl (lv_at hl 1 rfl) ?_
  refine g_iald (i := zi) hx hb hK hP 1 1 rfl hI d_Ref_minutes_5 ?_
  refine lv_iload_n hx hb d_Ref_minutes_6 rfl (lv_at hl 2 rfl) ?_
  refine ri_if_le (tgt := 32) hx hb d_Ref_minutes_7 (by decide) (fun h7 => ?_) (fun h7 => ?_)
  · refine lv_iconst (v := iI 0) hx hb d_Ref_minutes_32 rfl ?_
    refine ri_iadd hx hb d_Ref_minutes_33 ?_
    exact p_iret hx hb hr hlk d_Ref_minutes_34 (by unfold rMin; first | (rw [decide_eq_false (show ¬ 0 < ev by omega)]; rfl) | (rw [decide_eq_true (show 0 < ev by omega), bI_e1 h20]; rfl) | (rw [decide_eq_true (show 0 < ev by omega), bI_e0 h20]; rfl))
  · refine lv_aload_n hx hb d_Ref_minutes_10 rfl (lv_at hl 0 rfl) ?_
    refine g_get hx hb hk hown hK hP 0 rfl f_Ref_31 rfl d_Ref_minutes_11 ?_
    refine lv_iload_n hx hb d_Ref_minutes_14 rfl (lv_at hl 1 rfl) ?_
    refine g_aald (i := zi) hx hb hK hP 4 6 rfl hGG rfl (rfl) d_Ref_minutes_15 ?_
    refine lv_iload_n hx hb d_Ref_minutes_16 rfl (lv_at hl 2 rfl) ?_
    refine lv_iconst (v := iI 1) hx hb d_Ref_minutes_17 rfl ?_
    refine ri_isub hx hb d_Ref_minutes_18 ?_
    refine ri_i (show ((ev : Int)) - 1 = ((ev - 1 : Nat) : Int) from by omega) ?_
    refine g_zald (i := ev - 1) hx hb hK hP 7 3 rfl hG d_Ref_minutes_19 ?_ (by omega) (by decide)
    have gB := bI_b (gF (ev - 1))
    refine ri_if_eq (tgt := 32) hx hb d_Ref_minutes_20 (by decide) (fun h20 => ?_) (fun h20 => ?_)
    · refine lv_iconst (v := iI 0) hx hb d_Ref_minutes_32 rfl ?_
      refine ri_iadd hx hb d_Ref_minutes_33 ?_
      exact p_iret hx hb hr hlk d_Ref_minutes_34 (by unfold rMin; first | (rw [decide_eq_false (show ¬ 0 < ev by omega)]; rfl) | (rw [decide_eq_true (show 0 < ev by omega), bI_e1 h20]; rfl) | (rw [decide_eq_true (show 0 < ev by omega), bI_e0 h20]; rfl))
    · refine lv_aload_n hx hb d_Ref_minutes_23 rfl (lv_at hl 0 rfl) ?_
      refine g_get hx hb hk hown hK hP 0 rfl f_Ref_21 rfl d_Ref_minutes_24 ?_
      refine lv_iload_n hx hb d_Ref_minutes_27 rfl (lv_at hl 1 rfl) ?_
      refine g_iald (i := zi) hx hb hK hP 2 1 rfl hI d_Ref_minutes_28 ?_
      refine lv_goto (tgt := 33) hx hb d_Ref_minutes_29 (by decide) ?_
      refine ri_iadd hx hb d_Ref_minutes_33 ?_
      exact p_iret hx hb hr hlk d_Ref_minutes_34 (by unfold rMin; first | (rw [decide_eq_false (show ¬ 0 < ev by omega)]; rfl) | (rw [decide_eq_true (show 0 < ev by omega), bI_e1 h20]; rfl) | (rw [decide_eq_true (show 0 < ev by omega), bI_e0 h20]; rfl))
abbrev rm_Ref_summer : Room := { frames := 0, cells := 0, slots := 0, locals := 0 }
set_option maxHeartbeats 4000000 in
set_option maxRecDepth 100000 in
theorem ct_Ref_summer (l : Launch) (D : va_G) (tys : List (ClassId × FieldType)) (mm : Nat) (tA : Nat) (oA : Nat) (sA : Nat) (eA : Nat) (gA : Nat) (cA : Nat) (rA : Nat) (fA : Nat) (fa : Int) (nn : Nat) (pl : Int) (yr : Int) (mn : Int) (dy : Int) (i : Nat) (cI : ClassId) (cJ : ClassId) (cG : ClassId) (cJJ : ClassId) (cGG : ClassId) (oI : Nat → Int) (sI : Nat → Int) (cN : Nat → Nat) (eR : Nat → Nat) (gR : Nat → Nat) (zi : Nat) (eF : Nat → Int) (gF : Nat → Bool) (ev : Nat) (hI : tys[1]? = some (cI, .int)) (hJ : tys[2]? = some (cJ, .long)) (hG : tys[3]? = some (cG, .boolean)) (hJJ : tys[5]? = some (cJJ, .array .long)) (hGG : tys[6]? = some (cGG, .array .boolean)) (gz : zi < 8) (gev : ev ≤ 660) : pMet l y_Ref_summer c_Ref_summer 3 (some .boolean) rm_Ref_summer D tys [.ref mm, .int (iI ((zi : Int))), .int (iI ((ev : Int)))] [(mm, .inr (4, [.int (iI fa), .ref tA, .int (iI ((nn : Int))), .int (iI pl), .int (iI yr), .int (iI mn), .int (iI dy), .int (iI ((i : Int))), .ref oA, .ref sA, .ref eA, .ref gA, .ref cA, .ref rA, .ref fA])), (oA, .inl (cI, 8, .inl (fun j => iI (oI j)))), (sA, .inl (cI, 8, .inl (fun j => iI (sI j)))), (eA, .inl (cJJ, 8, .inr (.inr (.inr (.inr (fun k => some (eR k))))))), (gA, .inl (cGG, 8, .inr (.inr (.inr (.inr (fun k => some (gR k))))))), (cA, .inl (cI, 8, .inl (fun j => iI (cN j : Int)))), (eR zi, .inl (cJ, 660, .inr (.inl (fun j => lL (eF j))))), (gR zi, .inl (cG, 660, .inl (fun j => iI (bI (gF j)))))] (.int (iI (bI (decide (0 < ev) && gF (ev - 1))))) := by
  refine pMet_of (by decide) (Nat.le_of_ble_eq_true rfl) ?_
  intro p e s m below meth c hx hb hr hown hlk hml hk hK hP hD ls hl
  have hl : lv_has ls 3 [(0, .ref mm), (1, .int (iI ((zi : Int)))), (2, .int (iI ((ev : Int))))] := hl
  refine lv_iload_n hx hb d_Ref_summer_0 rfl (lv_at hl 2 rfl) ?_
  refine ri_if_le (tgt := 21) hx hb d_Ref_summer_1 (by decide) (fun h1 => ?_) (fun h1 => ?_)
  · refine lv_iconst (v := iI 0) hx hb d_Ref_summer_21 rfl ?_
    exact p_zret hx hb hr hlk d_Ref_summer_22 (by first | (rw [decide_eq_false (show ¬ 0 < ev by omega)]; rfl) | (rw [decide_eq_true (show 0 < ev by omega), bI_e1 h14]; rfl) | (rw [decide_eq_true (show 0 < ev by omega), bI_e0 h14]; rfl)) (by omega)
  · refine lv_aload_n hx hb d_Ref_summer_4 rfl (lv_at hl 0 rfl) ?_
    refine g_get hx hb hk hown hK hP 0 rfl f_Ref_31 rfl d_Ref_summer_5 ?_
    refine lv_iload_n hx hb d_Ref_summer_8 rfl (lv_at hl 1 rfl) ?_
    refine g_aald (i := zi) hx hb hK hP 4 6 rfl hGG rfl (rfl) d_Ref_summer_9 ?_
    refine lv_iload_n hx hb d_Ref_summer_10 rfl (lv_at hl 2 rfl) ?_
    refine lv_iconst (v := iI 1) hx hb d_Ref_summer_11 rfl ?_
    refine ri_isub hx hb d_Ref_summer_12 ?_
    refine ri_i (show ((ev : Int)) - 1 = ((ev - 1 : Nat) : Int) from by omega) ?_
    refine g_zald (i := ev - 1) hx hb hK hP 7 3 rfl hG d_Ref_summer_13 ?_ (by omega) (by decide)
    have gB := bI_b (gF (ev - 1))
    refine ri_if_eq (tgt := 21) hx hb d_Ref_summer_14 (by decide) (fun h14 => ?_) (fun h14 => ?_)
    · refine lv_iconst (v := iI 0) hx hb d_Ref_summer_21 rfl ?_
      exact p_zret hx hb hr hlk d_Ref_summer_22 (by first | (rw [decide_eq_false (show ¬ 0 < ev by omega)]; rfl) | (rw [decide_eq_true (show 0 < ev by omega), bI_e1 h14]; rfl) | (rw [decide_eq_true (show 0 < ev by omega), bI_e0 h14]; rfl)) (by omega)
    · refine lv_iconst (v := iI 1) hx hb d_Ref_summer_17 rfl ?_
      refine lv_goto (tgt := 22) hx hb d_Ref_summer_18 (by decide) ?_
      exact p_zret hx hb hr hlk d_Ref_summer_22 (by first | (rw [decide_eq_false (show ¬ 0 < ev by omega)]; rfl) | (rw [decide_eq_true (show 0 < ev by omega), bI_e1 h14]; rfl) | (rw [decide_eq_true (show 0 < ev by omega), bI_e0 h14]; rfl)) (by omega)
abbrev rm_Ref_localAt : Room := { frames := 1, cells := 0, slots := 0, locals := 26 }
set_option maxHeartbeats 4000000 in
set_option maxRecDepth 100000 in
theorem ct_Ref_localAt (l : Launch) (D : va_G) (tys : List (ClassId × FieldType)) (mm : Nat) (tA : Nat) (oA : Nat) (sA : Nat) (eA : Nat) (gA : Nat) (cA : Nat) (rA : Nat) (fA : Nat) (fa : Int) (nn : Nat) (pl : Int) (yr : Int) (mn : Int) (dy : Int) (i : Nat) (cI : ClassId) (cJ : ClassId) (cG : ClassId) (cJJ : ClassId) (cGG : ClassId) (oI : Nat → Int) (sI : Nat → Int) (cN : Nat → Nat) (eR : Nat → Nat) (gR : Nat → Nat) (zi : Nat) (eF : Nat → Int) (gF : Nat → Bool) (t : Int) (hI : tys[1]? = some (cI, .int)) (hJ : tys[2]? = some (cJ, .long)) (hG : tys[3]? = some (cG, .boolean)) (hJJ : tys[5]? = some (cJJ, .array .long)) (hGG : tys[6]? = some (cGG, .array .boolean)) (gz : zi < 8) (gc : cN zi ≤ 660) (gE : ∀ k, k < 660 → -1000000000000000 ≤ eF k ∧ eF k ≤ 1000000000000000) (hs : evS (cN zi) eF gF) (go1 : -840 ≤ oI zi) (go2 : oI zi ≤ 840) (gs1 : 0 ≤ sI zi) (gs2 : sI zi ≤ 120) (gi1 : -100000000000000 ≤ t) (gi2 : t ≤ 100000000000000) : pMet l y_Ref_localAt c_Ref_localAt 4 (some .long) rm_Ref_localAt D tys [.ref mm, .int (iI ((zi : Int))), .long (lL t)] [(mm, .inr (4, [.int (iI fa), .ref tA, .int (iI ((nn : Int))), .int (iI pl), .int (iI yr), .int (iI mn), .int (iI dy), .int (iI ((i : Int))), .ref oA, .ref sA, .ref eA, .ref gA, .ref cA, .ref rA, .ref fA])), (oA, .inl (cI, 8, .inl (fun j => iI (oI j)))), (sA, .inl (cI, 8, .inl (fun j => iI (sI j)))), (eA, .inl (cJJ, 8, .inr (.inr (.inr (.inr (fun k => some (eR k))))))), (gA, .inl (cGG, 8, .inr (.inr (.inr (.inr (fun k => some (gR k))))))), (cA, .inl (cI, 8, .inl (fun j => iI (cN j : Int)))), (eR zi, .inl (cJ, 660, .inr (.inl (fun j => lL (eF j))))), (gR zi, .inl (cG, 660, .inl (fun j => iI (bI (gF j)))))] (.long (lL (t + 60000 * rMin (oI zi) (sI zi) (evK eF t (cN zi)) gF))) := by
  refine pMet_of (by decide) (Nat.le_of_ble_eq_true rfl) ?_
  intro p e s m below meth c hx hb hr hown hlk hml hk hK hP hD ls hl
  have hl : lv_has ls 4 [(0, .ref mm), (1, .int (iI ((zi : Int)))), (2, .long (lL t))] := hl
  refine lv_lload_n hx hb d_Ref_localAt_0 rfl (lv_at hl 2 rfl) ?_
  refine lv_ldc2 (v := lL 60000) hx hb hown (hk _ kc_Ref_122 _) d_Ref_localAt_1 ?_
  refine lv_aload_n hx hb d_Ref_localAt_4 rfl (lv_at hl 0 rfl) ?_
  refine lv_iload_n hx hb d_Ref_localAt_5 rfl (lv_at hl 1 rfl) ?_
  refine lv_aload_n hx hb d_Ref_localAt_6 rfl (lv_at hl 0 rfl) ?_
  refine lv_iload_n hx hb d_Ref_localAt_7 rfl (lv_at hl 1 rfl) ?_
  refine lv_lload_n hx hb d_Ref_localAt_8 rfl (lv_at hl 2 rfl) ?_
  refine p_callV (rest := [.int (iI ((zi : Int))), .ref mm, .long (lL 60000), .long (lL t)]) (q0 := 0) hx hb (hml.trans hl.1.symm) hown hk hK k_Ref_128 (ct_Ref_passed l D tys mm tA oA sA eA gA cA rA fA fa nn pl yr mn dy i cI cJ cG cJJ cGG oI sI cN eR gR zi eF gF t hI hJ hG hJJ hGG gz gc gE hs (by omega) (by omega)) (w_subP (is := [0, 1, 2, 3, 4, 5, 6, 7]) hP rfl) (w_subD (is := [0, 1, 2, 3, 4, 5, 6, 7]) hD rfl rfl) rfl rfl rfl rfl ⟨rfl, rfl⟩ ⟨by decide, by decide, by decide, by decide⟩ (Nat.le_of_ble_eq_true rfl) d_Ref_localAt_9 ?_
  refine p_callV (rest := [.long (lL 60000), .long (lL t)]) (q0 := 0) hx hb (hml.trans hl.1.symm) hown hk hK k_Ref_132 (ct_Ref_minutes l D tys mm tA oA sA eA gA cA rA fA fa nn pl yr mn dy i cI cJ cG cJJ cGG oI sI cN eR gR zi eF gF (evK eF t (cN zi)) hI hJ hG hJJ hGG gz (by have := evK_le eF t (cN zi); omega)) (w_subP (is := [0, 1, 2, 3, 4, 5, 6, 7]) hP rfl) (w_subD (is := [0, 1, 2, 3, 4, 5, 6, 7]) hD rfl rfl) rfl rfl rfl rfl ⟨rfl, rfl⟩ ⟨by decide, by decide, by decide, by decide⟩ (Nat.le_of_ble_eq_true rfl) d_Ref_localAt_12 ?_
  have gm := rMin_bd (ev := evK eF t (cN zi)) (G := gF) go1 go2 gs1 gs2
  refine ri_i2l hx hb d_Ref_localAt_15 ?_
  refine ri_lmul hx hb d_Ref_localAt_16 ?_
  refine ri_ladd hx hb d_Ref_localAt_17 ?_
  exact p_lret hx hb hr hlk d_Ref_localAt_18 (by rfl)
abbrev rm_Ref_out : Room := { frames := 0, cells := 0, slots := 0, locals := 0 }
set_option maxHeartbeats 4000000 in
set_option maxRecDepth 100000 in
theorem ct_Ref_out (l : Launch) (D : va_G) (tys : List (ClassId × FieldType)) (mm : Nat) (tA : Nat) (oA : Nat) (sA : Nat) (eA : Nat) (gA : Nat) (cA : Nat) (rA : Nat) (fA : Nat) (fa : Int) (nn : Nat) (pl : Int) (yr : Int) (mn : Int) (dy : Int) (i : Nat) (z : Int) (t : Int) (gz1 : -2147483648 ≤ z) (gz2 : z ≤ 2147483647) (gi1 : -9223372036854775808 ≤ t) (gi2 : t ≤ 9223372036854775807) : pMet l y_Ref_out c_Ref_out 4 (some .boolean) rm_Ref_out D tys [.ref mm, .int (iI z), .long (lL t)] [(mm, .inr (4, [.int (iI fa), .ref tA, .int (iI ((nn : Int))), .int (iI pl), .int (iI yr), .int (iI mn), .int (iI dy), .int (iI ((i : Int))), .ref oA, .ref sA, .ref eA, .ref gA, .ref cA, .ref rA, .ref fA]))] (.int (iI (bI (zOutB z t)))) := by
  refine pMet_of (by decide) (Nat.le_of_ble_eq_true rfl) ?_
  intro p e s m below meth c hx hb hr hown hlk hml hk hK hP hD ls hl
  have hl : lv_has ls 4 [(0, .ref mm), (1, .int (iI z)), (2, .long (lL t))] := hl
  refine lv_iload_n hx hb d_Ref_out_0 rfl (lv_at hl 1 rfl) ?_
  refine ri_if_lt (tgt := 24) hx hb d_Ref_out_1 (by decide) (fun h1 => ?_) (fun h1 => ?_)
  · refine lv_iconst (v := iI 1) hx hb d_Ref_out_24 rfl ?_
    refine lv_goto (tgt := 29) hx hb d_Ref_out_25 (by decide) ?_
    exact p_zret hx hb hr hlk d_Ref_out_29 (by unfold zOutB; first | (rw [decide_eq_true (by omega)]; rfl) | (rw [decide_eq_false (by omega)]; rfl)) (by omega)
  · refine lv_iload_n hx hb d_Ref_out_4 rfl (lv_at hl 1 rfl) ?_
    refine lv_bipush (v := iI 7) hx hb d_Ref_out_5 (by decide) ?_
    refine ri_icmp_gt (tgt := 24) hx hb d_Ref_out_7 (by decide) (fun h7 => ?_) (fun h7 => ?_)
    · refine lv_iconst (v := iI 1) hx hb d_Ref_out_24 rfl ?_
      refine lv_goto (tgt := 29) hx hb d_Ref_out_25 (by decide) ?_
      exact p_zret hx hb hr hlk d_Ref_out_29 (by unfold zOutB; first | (rw [decide_eq_true (by omega)]; rfl) | (rw [decide_eq_false (by omega)]; rfl)) (by omega)
    · refine lv_lload_n hx hb d_Ref_out_10 rfl (lv_at hl 2 rfl) ?_
      refine lv_lconst (v := lL 0) hx hb d_Ref_out_11 (by decide) ?_
      refine ri_lcmp_lt (tgt := 24) hx hb d_Ref_out_12 d_Ref_out_13 (by decide) (fun h12 => ?_) (fun h12 => ?_)
      · refine lv_iconst (v := iI 1) hx hb d_Ref_out_24 rfl ?_
        refine lv_goto (tgt := 29) hx hb d_Ref_out_25 (by decide) ?_
        exact p_zret hx hb hr hlk d_Ref_out_29 (by unfold zOutB; first | (rw [decide_eq_true (by omega)]; rfl) | (rw [decide_eq_false (by omega)]; rfl)) (by omega)
      · refine lv_lload_n hx hb d_Ref_out_16 rfl (lv_at hl 2 rfl) ?_
        refine lv_ldc2 (v := lL 10413791999999) hx hb hown (hk _ kc_Ref_135 _) d_Ref_out_17 ?_
        refine ri_lcmp_le (tgt := 28) hx hb d_Ref_out_20 d_Ref_out_21 (by decide) (fun h20 => ?_) (fun h20 => ?_)
        · refine lv_iconst (v := iI 0) hx hb d_Ref_out_28 rfl ?_
          exact p_zret hx hb hr hlk d_Ref_out_29 (by unfold zOutB; first | (rw [decide_eq_true (by omega)]; rfl) | (rw [decide_eq_false (by omega)]; rfl)) (by omega)
        · refine lv_iconst (v := iI 1) hx hb d_Ref_out_24 rfl ?_
          refine lv_goto (tgt := 29) hx hb d_Ref_out_25 (by decide) ?_
          exact p_zret hx hb hr hlk d_Ref_out_29 (by unfold zOutB; first | (rw [decide_eq_true (by omega)]; rfl) | (rw [decide_eq_false (by omega)]; rfl)) (by omega)
abbrev rm_Ref_local : Room := { frames := 2, cells := 0, slots := 0, locals := 49 }
set_option maxHeartbeats 4000000 in
set_option maxRecDepth 100000 in
theorem ct_Ref_local (l : Launch) (D : va_G) (tys : List (ClassId × FieldType)) (mm : Nat) (tA : Nat) (oA : Nat) (sA : Nat) (eA : Nat) (gA : Nat) (cA : Nat) (rA : Nat) (fA : Nat) (fa : Int) (nn : Nat) (pl : Int) (yr : Int) (mn : Int) (dy : Int) (i : Nat) (cI : ClassId) (cJ : ClassId) (cG : ClassId) (cJJ : ClassId) (cGG : ClassId) (oI : Nat → Int) (sI : Nat → Int) (cN : Nat → Nat) (eR : Nat → Nat) (gR : Nat → Nat) (zi : Nat) (eF : Nat → Int) (gF : Nat → Bool) (t : Int) (hI : tys[1]? = some (cI, .int)) (hJ : tys[2]? = some (cJ, .long)) (hG : tys[3]? = some (cG, .boolean)) (hJJ : tys[5]? = some (cJJ, .array .long)) (hGG : tys[6]? = some (cGG, .array .boolean)) (gz : zi < 8) (gc : cN zi ≤ 660) (gE : ∀ k, k < 660 → -1000000000000000 ≤ eF k ∧ eF k ≤ 1000000000000000) (hs : evS (cN zi) eF gF) (go1 : -840 ≤ oI zi) (go2 : oI zi ≤ 840) (gs1 : 0 ≤ sI zi) (gs2 : sI zi ≤ 120) (gt1 : 0 ≤ t) (gt2 : t ≤ 10413791999999) : mMet l y_Ref_local c_Ref_local 4 (some .long) rm_Ref_local D tys [.ref mm, .int (iI ((zi : Int))), .long (lL t)] [(mm, .inr (4, [.int (iI fa), .ref tA, .int (iI ((nn : Int))), .int (iI pl), .int (iI yr), .int (iI mn), .int (iI dy), .int (iI ((i : Int))), .ref oA, .ref sA, .ref eA, .ref gA, .ref cA, .ref rA, .ref fA])), (oA, .inl (cI, 8, .inl (fun j => iI (oI j)))), (sA, .inl (cI, 8, .inl (fun j => iI (sI j)))), (eA, .inl (cJJ, 8, .inr (.inr (.inr (.inr (fun k => some (eR k))))))), (gA, .inl (cGG, 8, .inr (.inr (.inr (.inr (fun k => some (gR k))))))), (cA, .inl (cI, 8, .inl (fun j => iI (cN j : Int)))), (eR zi, .inl (cJ, 660, .inr (.inl (fun j => lL (eF j))))), (gR zi, .inl (cG, 660, .inl (fun j => iI (bI (gF j)))))] (some (.long (lL (t + 60000 * rMin (oI zi) (sI zi) (evK eF t (cN zi)) gF)))) [(mm, .inr (4, [.int (iI 0), .ref tA, .int (iI ((nn : Int))), .int (iI pl), .int (iI yr), .int (iI mn), .int (iI dy), .int (iI ((i : Int))), .ref oA, .ref sA, .ref eA, .ref gA, .ref cA, .ref rA, .ref fA])), (oA, .inl (cI, 8, .inl (fun j => iI (oI j)))), (sA, .inl (cI, 8, .inl (fun j => iI (sI j)))), (eA, .inl (cJJ, 8, .inr (.inr (.inr (.inr (fun k => some (eR k))))))), (gA, .inl (cGG, 8, .inr (.inr (.inr (.inr (fun k => some (gR k))))))), (cA, .inl (cI, 8, .inl (fun j => iI (cN j : Int)))), (eR zi, .inl (cJ, 660, .inr (.inl (fun j => lL (eF j))))), (gR zi, .inl (cG, 660, .inl (fun j => iI (bI (gF j)))))] := by
  refine mMet_of (by decide) (Nat.le_of_ble_eq_true rfl) ?_
  intro p e s m below meth c hx hb hr hown hlk hml hk hK hP hD hS ls hl
  have hl : lv_has ls 4 [(0, .ref mm), (1, .int (iI ((zi : Int)))), (2, .long (lL t))] := hl
  refine lv_aload_n hx hb d_Ref_local_0 rfl (lv_at hl 0 rfl) ?_
  refine lv_iconst (v := iI 0) hx hb d_Ref_local_1 rfl ?_
  refine g_put hx hb hk hown hK hP hD hS 0 rfl f_Ref_44 fT_Ref rfl (rfl) rfl (Nat.le_of_ble_eq_true rfl) d_Ref_local_2 (fun H locs hP hD hS => ?_)
  have hP : va_P D vwCl [(mm, .inr (4, [.int (iI 0), .ref tA, .int (iI ((nn : Int))), .int (iI pl), .int (iI yr), .int (iI mn), .int (iI dy), .int (iI ((i : Int))), .ref oA, .ref sA, .ref eA, .ref gA, .ref cA, .ref rA, .ref fA])), (oA, .inl (cI, 8, .inl (fun j => iI (oI j)))), (sA, .inl (cI, 8, .inl (fun j => iI (sI j)))), (eA, .inl (cJJ, 8, .inr (.inr (.inr (.inr (fun k => some (eR k))))))), (gA, .inl (cGG, 8, .inr (.inr (.inr (.inr (fun k => some (gR k))))))), (cA, .inl (cI, 8, .inl (fun j => iI (cN j : Int)))), (eR zi, .inl (cJ, 660, .inr (.inl (fun j => lL (eF j))))), (gR zi, .inl (cG, 660, .inl (fun j => iI (bI (gF j)))))] H := hP
  have hD : va_D (wA [(mm, .inr (4, [.int (iI fa), .ref tA, .int (iI ((nn : Int))), .int (iI pl), .int (iI yr), .int (iI mn), .int (iI dy), .int (iI ((i : Int))), .ref oA, .ref sA, .ref eA, .ref gA, .ref cA, .ref rA, .ref fA])), (oA, .inl (cI, 8, .inl (fun j => iI (oI j)))), (sA, .inl (cI, 8, .inl (fun j => iI (sI j)))), (eA, .inl (cJJ, 8, .inr (.inr (.inr (.inr (fun k => some (eR k))))))), (gA, .inl (cGG, 8, .inr (.inr (.inr (.inr (fun k => some (gR k))))))), (cA, .inl (cI, 8, .inl (fun j => iI (cN j : Int)))), (eR zi, .inl (cJ, 660, .inr (.inl (fun j => lL (eF j))))), (gR zi, .inl (cG, 660, .inl (fun j => iI (bI (gF j)))))]) [(mm, .inr (4, [.int (iI 0), .ref tA, .int (iI ((nn : Int))), .int (iI pl), .int (iI yr), .int (iI mn), .int (iI dy), .int (iI ((i : Int))), .ref oA, .ref sA, .ref eA, .ref gA, .ref cA, .ref rA, .ref fA])), (oA, .inl (cI, 8, .inl (fun j => iI (oI j)))), (sA, .inl (cI, 8, .inl (fun j => iI (sI j)))), (eA, .inl (cJJ, 8, .inr (.inr (.inr (.inr (fun k => some (eR k))))))), (gA, .inl (cGG, 8, .inr (.inr (.inr (.inr (fun k => some (gR k))))))), (cA, .inl (cI, 8, .inl (fun j => iI (cN j : Int)))), (eR zi, .inl (cJ, 660, .inr (.inl (fun j => lL (eF j))))), (gR zi, .inl (cG, 660, .inl (fun j => iI (bI (gF j)))))] := hD
  refine lv_aload_n hx hb d_Ref_local_5 rfl (lv_at hl 0 rfl) ?_
  refine lv_iload_n hx hb d_Ref_local_6 rfl (lv_at hl 1 rfl) ?_
  refine lv_lload_n hx hb d_Ref_local_7 rfl (lv_at hl 2 rfl) ?_
  refine p_callV (rest := []) (q0 := 0) hx hb (hml.trans hl.1.symm) hown hk hK k_Ref_137 (ct_Ref_out l D tys mm tA oA sA eA gA cA rA fA 0 nn pl yr mn dy i ((zi : Int)) t (by omega) (by omega) (by omega) (by omega)) (w_subP (is := [0]) hP rfl) (w_subD (is := [0]) hD rfl rfl) rfl rfl rfl rfl ⟨rfl, rfl⟩ ⟨by decide, by decide, by decide, by decide⟩ (Nat.le_of_ble_eq_true rfl) d_Ref_local_8 ?_
  have gO : zOutB (zi : Int) t = false := by unfold zOutB; exact decide_eq_false (by omega)
  have gO2 : bI (zOutB (zi : Int) t) = 0 := by rw [gO]; rfl
  refine ri_if_eq (tgt := 23) hx hb d_Ref_local_11 (by decide) (fun h11 => ?_) (fun h11 => ?_)
  · refine lv_aload_n hx hb d_Ref_local_23 rfl (lv_at hl 0 rfl) ?_
    refine lv_iload_n hx hb d_Ref_local_24 rfl (lv_at hl 1 rfl) ?_
    refine lv_lload_n hx hb d_Ref_local_25 rfl (lv_at hl 2 rfl) ?_
    refine p_callV (rest := []) (q0 := 0) hx hb (hml.trans hl.1.symm) hown hk hK k_Ref_144 (ct_Ref_localAt l D tys mm tA oA sA eA gA cA rA fA 0 nn pl yr mn dy i cI cJ cG cJJ cGG oI sI cN eR gR zi eF gF t hI hJ hG hJJ hGG gz gc gE hs go1 go2 gs1 gs2 (by omega) (by omega)) (w_subP (is := [0, 1, 2, 3, 4, 5, 6, 7]) hP rfl) (w_subD (is := [0, 1, 2, 3, 4, 5, 6, 7]) hD rfl rfl) rfl rfl rfl rfl ⟨rfl, rfl⟩ ⟨by decide, by decide, by decide, by decide⟩ (Nat.le_of_ble_eq_true rfl) d_Ref_local_26 ?_
    exact m_lret hx hb hr hlk hP hS d_Ref_local_29 (by rfl) (by rfl)
  · exfalso; omega
abbrev rm_Ref_local_b : Room := { frames := 1, cells := 0, slots := 0, locals := 23 }
set_option maxHeartbeats 4000000 in
set_option maxRecDepth 100000 in
theorem ct_Ref_local_b (l : Launch) (D : va_G) (tys : List (ClassId × FieldType)) (mm : Nat) (tA : Nat) (oA : Nat) (sA : Nat) (eA : Nat) (gA : Nat) (cA : Nat) (rA : Nat) (fA : Nat) (fa : Int) (nn : Nat) (pl : Int) (yr : Int) (mn : Int) (dy : Int) (i : Nat) (z : Int) (t : Int) (gz1 : -2147483648 ≤ z) (gz2 : z ≤ 2147483647) (gi1 : -9223372036854775808 ≤ t) (gi2 : t ≤ 9223372036854775807) (gbad : z < 0 ∨ 7 < z ∨ t < 0 ∨ 10413791999999 < t) : mMet l y_Ref_local c_Ref_local 4 (some .long) rm_Ref_local_b D tys [.ref mm, .int (iI z), .long (lL t)] [(mm, .inr (4, [.int (iI fa), .ref tA, .int (iI ((nn : Int))), .int (iI pl), .int (iI yr), .int (iI mn), .int (iI dy), .int (iI ((i : Int))), .ref oA, .ref sA, .ref eA, .ref gA, .ref cA, .ref rA, .ref fA]))] (some (.long (lL 0))) [(mm, .inr (4, [.int (iI 1), .ref tA, .int (iI ((nn : Int))), .int (iI pl), .int (iI yr), .int (iI mn), .int (iI dy), .int (iI ((i : Int))), .ref oA, .ref sA, .ref eA, .ref gA, .ref cA, .ref rA, .ref fA]))] := by
  refine mMet_of (by decide) (Nat.le_of_ble_eq_true rfl) ?_
  intro p e s m below meth c hx hb hr hown hlk hml hk hK hP hD hS ls hl
  have hl : lv_has ls 4 [(0, .ref mm), (1, .int (iI z)), (2, .long (lL t))] := hl
  refine lv_aload_n hx hb d_Ref_local_0 rfl (lv_at hl 0 rfl) ?_
  refine lv_iconst (v := iI 0) hx hb d_Ref_local_1 rfl ?_
  refine g_put hx hb hk hown hK hP hD hS 0 rfl f_Ref_44 fT_Ref rfl (rfl) rfl (Nat.le_of_ble_eq_true rfl) d_Ref_local_2 (fun H locs hP hD hS => ?_)
  have hP : va_P D vwCl [(mm, .inr (4, [.int (iI 0), .ref tA, .int (iI ((nn : Int))), .int (iI pl), .int (iI yr), .int (iI mn), .int (iI dy), .int (iI ((i : Int))), .ref oA, .ref sA, .ref eA, .ref gA, .ref cA, .ref rA, .ref fA]))] H := hP
  have hD : va_D (wA [(mm, .inr (4, [.int (iI fa), .ref tA, .int (iI ((nn : Int))), .int (iI pl), .int (iI yr), .int (iI mn), .int (iI dy), .int (iI ((i : Int))), .ref oA, .ref sA, .ref eA, .ref gA, .ref cA, .ref rA, .ref fA]))]) [(mm, .inr (4, [.int (iI 0), .ref tA, .int (iI ((nn : Int))), .int (iI pl), .int (iI yr), .int (iI mn), .int (iI dy), .int (iI ((i : Int))), .ref oA, .ref sA, .ref eA, .ref gA, .ref cA, .ref rA, .ref fA]))] := hD
  refine lv_aload_n hx hb d_Ref_local_5 rfl (lv_at hl 0 rfl) ?_
  refine lv_iload_n hx hb d_Ref_local_6 rfl (lv_at hl 1 rfl) ?_
  refine lv_lload_n hx hb d_Ref_local_7 rfl (lv_at hl 2 rfl) ?_
  refine p_callV (rest := []) (q0 := 0) hx hb (hml.trans hl.1.symm) hown hk hK k_Ref_137 (ct_Ref_out l D tys mm tA oA sA eA gA cA rA fA 0 nn pl yr mn dy i z t (by omega) (by omega) (by omega) (by omega)) (w_subP (is := [0]) hP rfl) (w_subD (is := [0]) hD rfl rfl) rfl rfl rfl rfl ⟨rfl, rfl⟩ ⟨by decide, by decide, by decide, by decide⟩ (Nat.le_of_ble_eq_true rfl) d_Ref_local_8 ?_
  have gO : zOutB z t = true := by unfold zOutB; exact decide_eq_true (by omega)
  have gO2 : bI (zOutB z t) = 1 := by rw [gO]; rfl
  refine ri_if_eq (tgt := 23) hx hb d_Ref_local_11 (by decide) (fun h11 => ?_) (fun h11 => ?_)
  · exfalso; omega
  · refine lv_aload_n hx hb d_Ref_local_14 rfl (lv_at hl 0 rfl) ?_
    refine lv_iconst (v := iI 1) hx hb d_Ref_local_15 rfl ?_
    refine m_callV (rest := []) (q0 := 0) hx hb (hml.trans hl.1.symm) hown hk hK k_Ref_141 (ct_Ref_fail l D tys mm tA oA sA eA gA cA rA fA 0 nn pl yr mn dy i 1 ) hP hD hS [0] rfl rfl rfl rfl rfl rfl rfl ⟨rfl, rfl⟩ ⟨by decide, by decide, by decide, by decide⟩ (Nat.le_of_ble_eq_true rfl) d_Ref_local_16 (fun H locs hP hD hS => ?_)
    have hP : va_P D vwCl [(mm, .inr (4, [.int (iI 1), .ref tA, .int (iI ((nn : Int))), .int (iI pl), .int (iI yr), .int (iI mn), .int (iI dy), .int (iI ((i : Int))), .ref oA, .ref sA, .ref eA, .ref gA, .ref cA, .ref rA, .ref fA]))] H := hP
    have hD : va_D (wA [(mm, .inr (4, [.int (iI fa), .ref tA, .int (iI ((nn : Int))), .int (iI pl), .int (iI yr), .int (iI mn), .int (iI dy), .int (iI ((i : Int))), .ref oA, .ref sA, .ref eA, .ref gA, .ref cA, .ref rA, .ref fA]))]) [(mm, .inr (4, [.int (iI 1), .ref tA, .int (iI ((nn : Int))), .int (iI pl), .int (iI yr), .int (iI mn), .int (iI dy), .int (iI ((i : Int))), .ref oA, .ref sA, .ref eA, .ref gA, .ref cA, .ref rA, .ref fA]))] := hD
    refine ri_i2l hx hb d_Ref_local_19 ?_
    refine lv_goto (tgt := 29) hx hb d_Ref_local_20 (by decide) ?_
    exact m_lret hx hb hr hlk hP hS d_Ref_local_29 (by rfl) (by rfl)
