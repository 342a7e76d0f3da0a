/-! Contracts: the reference's rules and events. By program (wip/whole/m_ref4.py). -/
abbrev rm_Ref_ruleDay : Room := { frames := 3, cells := 0, slots := 0, locals := 65 }
set_option maxHeartbeats 4000000 in
set_option maxRecDepth 100000 in
theorem ct_Ref_ruleDay (l : Launch) (D : va_G) (tys : List (ClassId × FieldType)) (mm : Nat) (tA : Nat) (oA : Nat) (sA : Nat) (eA : Nat) (gA : Nat) (cA : Nat) (rA : Nat) (fA : Nat) (fa : Int) (nn : Nat) (pl : Int) (yr : Int) (mn : Int) (dy : Int) (i : Nat) (cI : ClassId) (rr : Nat → Int32) (b : Nat) (y : Int) (mo : Int) (wk : Int) (wd : Int) (hI : tys[1]? = some (cI, .int)) (gb : b ≤ 4) (gy1 : 1900 ≤ y) (gy2 : y ≤ 2399) (ge0 : rr b = iI mo) (ge1 : rr (b + 1) = iI wk) (ge2 : rr (b + 2) = iI wd) (gm1 : 1 ≤ mo) (gm2 : mo ≤ 12) (gk1 : 1 ≤ wk) (gk2 : wk ≤ 5) (gd1 : 0 ≤ wd) (gd2 : wd ≤ 6) : pMet l y_Ref_ruleDay c_Ref_ruleDay 5 (some .int) rm_Ref_ruleDay D tys [.ref mm, .int (iI ((b : Int))), .int (iI y)] [(mm, .inr (4, [.int (iI fa), .ref tA, .int (iI ((nn : Int))), .int (iI pl), .int (iI yr), .int (iI mn), .int (iI dy), .int (iI ((i : Int))), .ref oA, .ref sA, .ref eA, .ref gA, .ref cA, .ref rA, .ref fA])), (rA, .inl (cI, 8, .inl rr))] (.int (iI (rDay mo wk wd y))) := by
  refine pMet_of (by decide) (Nat.le_of_ble_eq_true rfl) ?_
  intro p e s m below meth c hx hb hr hown hlk hml hk hK hP hD ls hl
  have hl : lv_has ls 5 [(0, .ref mm), (1, .int (iI ((b : Int)))), (2, .int (iI y))] := hl
  refine lv_iload_n hx hb d_Ref_ruleDay_0 rfl (lv_at hl 2 rfl) ?_
  refine lv_aload_n hx hb d_Ref_ruleDay_1 rfl (lv_at hl 0 rfl) ?_
  refine g_get hx hb hk hown hK hP 0 rfl f_Ref_37 rfl d_Ref_ruleDay_2 ?_
  refine lv_iload_n hx hb d_Ref_ruleDay_5 rfl (lv_at hl 1 rfl) ?_
  refine g_iald (i := b) hx hb hK hP 1 1 rfl hI d_Ref_ruleDay_6 ?_ (by omega) (by decide)
  refine ri_v (congrArg Value.int ge0) ?_
  refine p_callS (rest := []) hx hb (hml.trans hl.1.symm) hown hk hK k_Ref_63 (ct_Ref_number l D tys y mo (by omega) (by omega) (by omega) (by omega)) nil_P nil_D rfl rfl ⟨rfl, rfl⟩ ⟨by decide, by decide, by decide, by decide⟩ (Nat.le_of_ble_eq_true rfl) d_Ref_ruleDay_7 ?_
  have gF := cFD_b (y := y) (mo := mo) (by omega) (by omega) (by omega) (by omega)
  have gW := cWd_b (cFD y mo)
  have gl1 := cLen_lo y mo
  have gl2 := cLen_hi y mo
  refine lv_istore_n (lv' := [(3, .int (iI (cFD y mo))), (0, .ref mm), (1, .int (iI ((b : Int)))), (2, .int (iI y))]) hx hb d_Ref_ruleDay_10 rfl hl (by decide) rfl (fun ls hl => ?_)
  refine lv_iload_n hx hb d_Ref_ruleDay_11 rfl (lv_at hl 0 rfl) ?_
  refine lv_aload_n hx hb d_Ref_ruleDay_12 rfl (lv_at hl 1 rfl) ?_
  refine g_get hx hb hk hown hK hP 0 rfl f_Ref_37 rfl d_Ref_ruleDay_13 ?_
  refine lv_iload_n hx hb d_Ref_ruleDay_16 rfl (lv_at hl 2 rfl) ?_
  refine lv_iconst (v := iI 2) hx hb d_Ref_ruleDay_17 rfl ?_
  refine ri_iadd hx hb d_Ref_ruleDay_18 ?_
  refine ri_i (show ((b : Int)) + 2 = ((b + 2 : Nat) : Int) from by omega) ?_
  refine g_iald (i := b + 2) hx hb hK hP 1 1 rfl hI d_Ref_ruleDay_19 ?_ (by omega) (by decide)
  refine ri_v (congrArg Value.int ge2) ?_
  refine lv_iconst (v := iI 1) hx hb d_Ref_ruleDay_20 rfl ?_
  refine ri_iadd hx hb d_Ref_ruleDay_21 ?_
  refine lv_iload_n hx hb d_Ref_ruleDay_22 rfl (lv_at hl 0 rfl) ?_
  refine p_callS (rest := [.int (iI (wd + 1)), .int (iI (cFD y mo))]) hx hb (hml.trans hl.1.symm) hown hk hK k_Ref_105 (ct_Ref_weekday l D tys (cFD y mo) (by omega) (by omega)) nil_P nil_D rfl rfl ⟨rfl, rfl⟩ ⟨by decide, by decide, by decide, by decide⟩ (Nat.le_of_ble_eq_true rfl) d_Ref_ruleDay_23 ?_
  refine ri_isub hx hb d_Ref_ruleDay_26 ?_
  refine lv_bipush (v := iI 7) hx hb d_Ref_ruleDay_27 (by decide) ?_
  refine p_callS (rest := [.int (iI (cFD y mo))]) hx hb (hml.trans hl.1.symm) hown hk hK k_Ref_72 (ct_Math_floorModI l D tys ((wd + 1) - (cWd (cFD y mo) + 1)) 7 (by omega) (by omega) (by omega) (by omega)) nil_P nil_D rfl rfl ⟨rfl, rfl⟩ ⟨by decide, by decide, by decide, by decide⟩ (Nat.le_of_ble_eq_true rfl) d_Ref_ruleDay_29 ?_
  refine ri_iadd hx hb d_Ref_ruleDay_32 ?_
  refine lv_bipush (v := iI 7) hx hb d_Ref_ruleDay_33 (by decide) ?_
  refine lv_aload_n hx hb d_Ref_ruleDay_35 rfl (lv_at hl 1 rfl) ?_
  refine g_get hx hb hk hown hK hP 0 rfl f_Ref_37 rfl d_Ref_ruleDay_36 ?_
  refine lv_iload_n hx hb d_Ref_ruleDay_39 rfl (lv_at hl 2 rfl) ?_
  refine lv_iconst (v := iI 1) hx hb d_Ref_ruleDay_40 rfl ?_
  refine ri_iadd hx hb d_Ref_ruleDay_41 ?_
  refine ri_i (show ((b : Int)) + 1 = ((b + 1 : Nat) : Int) from by omega) ?_
  refine g_iald (i := b + 1) hx hb hK hP 1 1 rfl hI d_Ref_ruleDay_42 ?_ (by omega) (by decide)
  refine ri_v (congrArg Value.int ge1) ?_
  refine lv_iconst (v := iI 1) hx hb d_Ref_ruleDay_43 rfl ?_
  refine ri_isub hx hb d_Ref_ruleDay_44 ?_
  refine ri_imul hx hb d_Ref_ruleDay_45 ?_
  refine ri_iadd hx hb d_Ref_ruleDay_46 ?_
  refine lv_istore (lv' := [(4, .int (iI (((cFD y mo) + (((wd + 1) - (cWd (cFD y mo) + 1)) % 7)) + (7 * (wk - 1))))), (3, .int (iI (cFD y mo))), (0, .ref mm), (1, .int (iI ((b : Int)))), (2, .int (iI y))]) hx hb d_Ref_ruleDay_47 hl (by decide) rfl (fun ls hl => ?_)
  refine lv_iload hx hb d_Ref_ruleDay_49 (lv_at hl 0 rfl) ?_
  refine lv_iload_n hx hb d_Ref_ruleDay_51 rfl (lv_at hl 1 rfl) ?_
  refine lv_iload_n hx hb d_Ref_ruleDay_52 rfl (lv_at hl 4 rfl) ?_
  refine lv_aload_n hx hb d_Ref_ruleDay_53 rfl (lv_at hl 2 rfl) ?_
  refine g_get hx hb hk hown hK hP 0 rfl f_Ref_37 rfl d_Ref_ruleDay_54 ?_
  refine lv_iload_n hx hb d_Ref_ruleDay_57 rfl (lv_at hl 3 rfl) ?_
  refine g_iald (i := b) hx hb hK hP 1 1 rfl hI d_Ref_ruleDay_58 ?_ (by omega) (by decide)
  refine ri_v (congrArg Value.int ge0) ?_
  refine p_callS (rest := [.int (iI (cFD y mo)), .int (iI (((cFD y mo) + (((wd + 1) - (cWd (cFD y mo) + 1)) % 7)) + (7 * (wk - 1))))]) hx hb (hml.trans hl.1.symm) hown hk hK k_Ref_51 (ct_Ref_length l D tys y mo (by omega) (by omega) (by omega) (by omega)) nil_P nil_D rfl rfl ⟨rfl, rfl⟩ ⟨by decide, by decide, by decide, by decide⟩ (Nat.le_of_ble_eq_true rfl) d_Ref_ruleDay_59 ?_
  refine ri_iadd hx hb d_Ref_ruleDay_62 ?_
  refine ri_icmp_lt (tgt := 74) hx hb d_Ref_ruleDay_63 (by decide) (fun h63 => ?_) (fun h63 => ?_)
  · refine lv_iload hx hb d_Ref_ruleDay_74 (lv_at hl 0 rfl) ?_
    exact p_iret hx hb hr hlk d_Ref_ruleDay_76 (by unfold rDay rK; first | (rw [if_neg (by omega)]; omega) | (rw [if_pos (by omega)]; omega))
  · refine lv_iload hx hb d_Ref_ruleDay_66 (lv_at hl 0 rfl) ?_
    refine lv_bipush (v := iI 7) hx hb d_Ref_ruleDay_68 (by decide) ?_
    refine ri_isub hx hb d_Ref_ruleDay_70 ?_
    refine lv_goto (tgt := 76) hx hb d_Ref_ruleDay_71 (by decide) ?_
    exact p_iret hx hb hr hlk d_Ref_ruleDay_76 (by unfold rDay rK; first | (rw [if_neg (by omega)]; omega) | (rw [if_pos (by omega)]; omega))
abbrev rm_Ref_event : Room := { frames := 0, cells := 0, slots := 0, locals := 0 }
set_option maxHeartbeats 4000000 in
set_option maxRecDepth 100000 in
theorem ct_Ref_event (l : Launch) (D : va_G) (tys : List (ClassId × FieldType)) (mm : Nat) (tA : Nat) (oA : Nat) (sA : Nat) (eA : Nat) (gA : Nat) (cA : Nat) (rA : Nat) (fA : Nat) (fa : Int) (nn : Nat) (pl : Int) (yr : Int) (mn : Int) (dy : Int) (i : Nat) (cI : ClassId) (cJ : ClassId) (cG : ClassId) (cJJ : ClassId) (cGG : ClassId) (cR : Nat → Int32) (eR : Nat → Nat) (gR : Nat → Nat) (zi : Nat) (eF : Nat → Int) (gF : Nat → Bool) (en : Nat) (t : Int) (bg : Bool) (hI : tys[1]? = some (cI, .int)) (hJ : tys[2]? = some (cJ, .long)) (hG : tys[3]? = some (cG, .boolean)) (hJJ : tys[5]? = some (cJJ, .array .long)) (hGG : tys[6]? = some (cGG, .array .boolean)) (gz : zi < 8) (ge : cR zi = iI (en : Int)) (gn : en < 660) (gE : ∀ k, k < 660 → -1000000000000000 ≤ eF k ∧ eF k ≤ 1000000000000000) (gt1 : -1000000000000000 ≤ t) (gt2 : t ≤ 1000000000000000) : mMet l y_Ref_event c_Ref_event 6 none rm_Ref_event D tys [.ref mm, .int (iI ((zi : Int))), .long (lL t), .int (iI (bI bg))] [(mm, .inr (4, [.int (iI fa), .ref tA, .int (iI ((nn : Int))), .int (iI pl), .int (iI yr), .int (iI mn), .int (iI dy), .int (iI ((i : Int))), .ref oA, .ref sA, .ref eA, .ref gA, .ref cA, .ref rA, .ref fA])), (eA, .inl (cJJ, 8, .inr (.inr (.inr (.inr (fun k => some (eR k))))))), (gA, .inl (cGG, 8, .inr (.inr (.inr (.inr (fun k => some (gR k))))))), (cA, .inl (cI, 8, .inl cR)), (eR zi, .inl (cJ, 660, .inr (.inl (fun j => lL (eF j))))), (gR zi, .inl (cG, 660, .inl (fun j => iI (bI (gF j)))))] none [(mm, .inr (4, [.int (iI fa), .ref tA, .int (iI ((nn : Int))), .int (iI pl), .int (iI yr), .int (iI mn), .int (iI dy), .int (iI ((i : Int))), .ref oA, .ref sA, .ref eA, .ref gA, .ref cA, .ref rA, .ref fA])), (eA, .inl (cJJ, 8, .inr (.inr (.inr (.inr (fun k => some (eR k))))))), (gA, .inl (cGG, 8, .inr (.inr (.inr (.inr (fun k => some (gR k))))))), (cA, .inl (cI, 8, .inl (upd cR zi (iI (((en : Nat) : Int) + 1))))), (eR zi, .inl (cJ, 660, .inr (.inl (fun j => lL (evPut eF (evPos eF gF t bg en) en t j))))), (gR zi, .inl (cG, 660, .inl (fun j => iI (bI (evPut gF (evPos eF gF t bg en) en bg j)))))] := by
  refine mMet_of (by decide) (Nat.le_of_ble_eq_true rfl) ?_
  intro p e s m below meth c hx hb hr hown hlk hml hk hK hP hD hS ls hl
  have hl : lv_has ls 6 [(0, .ref mm), (1, .int (iI ((zi : Int)))), (2, .long (lL t)), (4, .int (iI (bI bg)))] := hl
  refine lv_aload_n hx hb d_Ref_event_0 rfl (lv_at hl 0 rfl) ?_
  refine g_get hx hb hk hown hK hP 0 rfl f_Ref_34 rfl d_Ref_event_1 ?_
  refine lv_iload_n hx hb d_Ref_event_4 rfl (lv_at hl 1 rfl) ?_
  refine g_iald (i := zi) hx hb hK hP 3 1 rfl hI d_Ref_event_5 ?_
  refine ri_v (congrArg Value.int ge) ?_
  refine lv_istore (lv' := [(5, .int (iI ((en : Int)))), (0, .ref mm), (1, .int (iI ((zi : Int)))), (2, .long (lL t)), (4, .int (iI (bI bg)))]) hx hb d_Ref_event_6 hl (by decide) rfl (fun ls hl => ?_)
  have z1 := evSh_0 (F := eF) (n := en)
  have z2 := evSh_0 (F := gF) (n := en)
  have hP : va_P D vwCl [(mm, .inr (4, [.int (iI fa), .ref tA, .int (iI ((nn : Int))), .int (iI pl), .int (iI yr), .int (iI mn), .int (iI dy), .int (iI ((i : Int))), .ref oA, .ref sA, .ref eA, .ref gA, .ref cA, .ref rA, .ref fA])), (eA, .inl (cJJ, 8, .inr (.inr (.inr (.inr (fun k => some (eR k))))))), (gA, .inl (cGG, 8, .inr (.inr (.inr (.inr (fun k => some (gR k))))))), (cA, .inl (cI, 8, .inl cR)), (eR zi, .inl (cJ, 660, .inr (.inl (fun j => lL (evSh eF en en j))))), (gR zi, .inl (cG, 660, .inl (fun j => iI (bI (evSh gF en en j)))))] s.heap := by rw [z1, z2]; exact hP
  have hD : va_D (wA [(mm, .inr (4, [.int (iI fa), .ref tA, .int (iI ((nn : Int))), .int (iI pl), .int (iI yr), .int (iI mn), .int (iI dy), .int (iI ((i : Int))), .ref oA, .ref sA, .ref eA, .ref gA, .ref cA, .ref rA, .ref fA])), (eA, .inl (cJJ, 8, .inr (.inr (.inr (.inr (fun k => some (eR k))))))), (gA, .inl (cGG, 8, .inr (.inr (.inr (.inr (fun k => some (gR k))))))), (cA, .inl (cI, 8, .inl cR)), (eR zi, .inl (cJ, 660, .inr (.inl (fun j => lL (eF j))))), (gR zi, .inl (cG, 660, .inl (fun j => iI (bI (gF j)))))]) [(mm, .inr (4, [.int (iI fa), .ref tA, .int (iI ((nn : Int))), .int (iI pl), .int (iI yr), .int (iI mn), .int (iI dy), .int (iI ((i : Int))), .ref oA, .ref sA, .ref eA, .ref gA, .ref cA, .ref rA, .ref fA])), (eA, .inl (cJJ, 8, .inr (.inr (.inr (.inr (fun k => some (eR k))))))), (gA, .inl (cGG, 8, .inr (.inr (.inr (.inr (fun k => some (gR k))))))), (cA, .inl (cI, 8, .inl cR)), (eR zi, .inl (cJ, 660, .inr (.inl (fun j => lL (evSh eF en en j))))), (gR zi, .inl (cG, 660, .inl (fun j => iI (bI (evSh gF en en j)))))] := by rw [z1, z2]; exact hD
  have loop8 : ∀ (n : Nat) (k : Nat) (ls : Array Slot) (H : Heap) (locs : List Loc), (k ≤ en) → (evPos eF gF t bg en = evPos eF gF t bg k) → k = n → va_P D vwCl [(mm, .inr (4, [.int (iI fa), .ref tA, .int (iI ((nn : Int))), .int (iI pl), .int (iI yr), .int (iI mn), .int (iI dy), .int (iI ((i : Int))), .ref oA, .ref sA, .ref eA, .ref gA, .ref cA, .ref rA, .ref fA])), (eA, .inl (cJJ, 8, .inr (.inr (.inr (.inr (fun k => some (eR k))))))), (gA, .inl (cGG, 8, .inr (.inr (.inr (.inr (fun k => some (gR k))))))), (cA, .inl (cI, 8, .inl cR)), (eR zi, .inl (cJ, 660, .inr (.inl (fun j => lL (evSh eF en k j))))), (gR zi, .inl (cG, 660, .inl (fun j => iI (bI (evSh gF en k j)))))] H → va_D (wA [(mm, .inr (4, [.int (iI fa), .ref tA, .int (iI ((nn : Int))), .int (iI pl), .int (iI yr), .int (iI mn), .int (iI dy), .int (iI ((i : Int))), .ref oA, .ref sA, .ref eA, .ref gA, .ref cA, .ref rA, .ref fA])), (eA, .inl (cJJ, 8, .inr (.inr (.inr (.inr (fun k => some (eR k))))))), (gA, .inl (cGG, 8, .inr (.inr (.inr (.inr (fun k => some (gR k))))))), (cA, .inl (cI, 8, .inl cR)), (eR zi, .inl (cJ, 660, .inr (.inl (fun j => lL (eF j))))), (gR zi, .inl (cG, 660, .inl (fun j => iI (bI (gF j)))))]) [(mm, .inr (4, [.int (iI fa), .ref tA, .int (iI ((nn : Int))), .int (iI pl), .int (iI yr), .int (iI mn), .int (iI dy), .int (iI ((i : Int))), .ref oA, .ref sA, .ref eA, .ref gA, .ref cA, .ref rA, .ref fA])), (eA, .inl (cJJ, 8, .inr (.inr (.inr (.inr (fun k => some (eR k))))))), (gA, .inl (cGG, 8, .inr (.inr (.inr (.inr (fun k => some (gR k))))))), (cA, .inl (cI, 8, .inl cR)), (eR zi, .inl (cJ, 660, .inr (.inl (fun j => lL (evSh eF en k j))))), (gR zi, .inl (cG, 660, .inl (fun j => iI (bI (evSh gF en k j)))))] → va_S (wA [(mm, .inr (4, [.int (iI fa), .ref tA, .int (iI ((nn : Int))), .int (iI pl), .int (iI yr), .int (iI mn), .int (iI dy), .int (iI ((i : Int))), .ref oA, .ref sA, .ref eA, .ref gA, .ref cA, .ref rA, .ref fA])), (eA, .inl (cJJ, 8, .inr (.inr (.inr (.inr (fun k => some (eR k))))))), (gA, .inl (cGG, 8, .inr (.inr (.inr (.inr (fun k => some (gR k))))))), (cA, .inl (cI, 8, .inl cR)), (eR zi, .inl (cJ, 660, .inr (.inl (fun j => lL (eF j))))), (gR zi, .inl (cG, 660, .inl (fun j => iI (bI (gF j)))))]) s.heap H locs → lv_has ls 6 [(5, .int (iI ((k : Int)))), (0, .ref mm), (1, .int (iI ((zi : Int)))), (2, .long (lL t)), (4, .int (iI (bI bg)))] → W p l e rm_Ref_event s m ([.ref mm, .int (iI ((zi : Int))), .long (lL t), .int (iI (bI bg))] : List Value).toArray below meth c H locs 0 0 (MQ below (mQ D [(mm, .inr (4, [.int (iI fa), .ref tA, .int (iI ((nn : Int))), .int (iI pl), .int (iI yr), .int (iI mn), .int (iI dy), .int (iI ((i : Int))), .ref oA, .ref sA, .ref eA, .ref gA, .ref cA, .ref rA, .ref fA])), (eA, .inl (cJJ, 8, .inr (.inr (.inr (.inr (fun k => some (eR k))))))), (gA, .inl (cGG, 8, .inr (.inr (.inr (.inr (fun k => some (gR k))))))), (cA, .inl (cI, 8, .inl cR)), (eR zi, .inl (cJ, 660, .inr (.inl (fun j => lL (eF j))))), (gR zi, .inl (cG, 660, .inl (fun j => iI (bI (gF j)))))] none [(mm, .inr (4, [.int (iI fa), .ref tA, .int (iI ((nn : Int))), .int (iI pl), .int (iI yr), .int (iI mn), .int (iI dy), .int (iI ((i : Int))), .ref oA, .ref sA, .ref eA, .ref gA, .ref cA, .ref rA, .ref fA])), (eA, .inl (cJJ, 8, .inr (.inr (.inr (.inr (fun k => some (eR k))))))), (gA, .inl (cGG, 8, .inr (.inr (.inr (.inr (fun k => some (gR k))))))), (cA, .inl (cI, 8, .inl (upd cR zi (iI (((en : Nat) : Int) + 1))))), (eR zi, .inl (cJ, 660, .inr (.inl (fun j => lL (evPut eF (evPos eF gF t bg en) en t j))))), (gR zi, .inl (cG, 660, .inl (fun j => iI (bI (evPut gF (evPos eF gF t bg en) en bg j)))))]) ([.ref mm, .int (iI ((zi : Int))), .long (lL t), .int (iI (bI bg))] : List Value).toArray s 0 0 (wA [(mm, .inr (4, [.int (iI fa), .ref tA, .int (iI ((nn : Int))), .int (iI pl), .int (iI yr), .int (iI mn), .int (iI dy), .int (iI ((i : Int))), .ref oA, .ref sA, .ref eA, .ref gA, .ref cA, .ref rA, .ref fA])), (eA, .inl (cJJ, 8, .inr (.inr (.inr (.inr (fun k => some (eR k))))))), (gA, .inl (cGG, 8, .inr (.inr (.inr (.inr (fun k => some (gR k))))))), (cA, .inl (cI, 8, .inl cR)), (eR zi, .inl (cJ, 660, .inr (.inl (fun j => lL (eF j))))), (gR zi, .inl (cG, 660, .inl (fun j => iI (bI (gF j)))))])) (F0 m 8 ls []) := by
    intro n
    induction n using Nat.strongRecOn with
    | _ n ih =>
    intro k ls H locs hke hv hn hP hD hS hl
    have gs : ∀ j, j < 660 → -1000000000000000 ≤ evSh eF en k j ∧ evSh eF en k j ≤ 1000000000000000 := fun j hj => by
      unfold evSh
      split
      · exact gE (j - 1) (by omega)
      · exact gE j hj
    refine lv_iload hx hb d_Ref_event_8 (lv_at hl 0 rfl) ?_
    refine ri_if_le (tgt := 110) hx hb d_Ref_event_10 (by decide) (fun h10 => ?_) (fun h10 => ?_)
    · have hst : evPos eF gF t bg k = k := evPos_st (by
        by_cases h0 : k = 0
        · exact Or.inl h0
        · have q1 := evSh_at (F := eF) (n := en) (k := k) (j := k - 1) (by omega)
          have q2 := evSh_at (F := gF) (n := en) (k := k) (j := k - 1) (by omega)
          refine Or.inr (fun hc => ?_)
          rcases hc with hc | ⟨hc1, hc2, hc3⟩
          · omega
          · first
            | omega
            | (rw [hc2] at h47; exact absurd h47 (by decide))
            | (rw [q2, hc3] at h61; exact absurd rfl h61))
      refine lv_aload_n hx hb d_Ref_event_110 rfl (lv_at hl 1 rfl) ?_
      refine g_get hx hb hk hown hK hP 0 rfl f_Ref_26 rfl d_Ref_event_111 ?_
      refine lv_iload_n hx hb d_Ref_event_114 rfl (lv_at hl 2 rfl) ?_
      refine g_aald (i := zi) hx hb hK hP 1 5 rfl hJJ rfl (rfl) d_Ref_event_115 ?_
      refine lv_iload hx hb d_Ref_event_116 (lv_at hl 0 rfl) ?_
      refine lv_lload_n hx hb d_Ref_event_118 rfl (lv_at hl 3 rfl) ?_
      refine g_last (i := k) hx hb hK hP hD hS 4 2 rfl hJ d_Ref_event_119 (fun H locs hP hD hS => ?_) (by omega) (by decide)
      have hP : va_P D vwCl [(mm, .inr (4, [.int (iI fa), .ref tA, .int (iI ((nn : Int))), .int (iI pl), .int (iI yr), .int (iI mn), .int (iI dy), .int (iI ((i : Int))), .ref oA, .ref sA, .ref eA, .ref gA, .ref cA, .ref rA, .ref fA])), (eA, .inl (cJJ, 8, .inr (.inr (.inr (.inr (fun k => some (eR k))))))), (gA, .inl (cGG, 8, .inr (.inr (.inr (.inr (fun k => some (gR k))))))), (cA, .inl (cI, 8, .inl cR)), (eR zi, .inl (cJ, 660, .inr (.inl (vp_updL (fun j => lL (evSh eF en k j)) k (lL t))))), (gR zi, .inl (cG, 660, .inl (fun j => iI (bI (evSh gF en k j)))))] H := hP
      have hD : va_D (wA [(mm, .inr (4, [.int (iI fa), .ref tA, .int (iI ((nn : Int))), .int (iI pl), .int (iI yr), .int (iI mn), .int (iI dy), .int (iI ((i : Int))), .ref oA, .ref sA, .ref eA, .ref gA, .ref cA, .ref rA, .ref fA])), (eA, .inl (cJJ, 8, .inr (.inr (.inr (.inr (fun k => some (eR k))))))), (gA, .inl (cGG, 8, .inr (.inr (.inr (.inr (fun k => some (gR k))))))), (cA, .inl (cI, 8, .inl cR)), (eR zi, .inl (cJ, 660, .inr (.inl (fun j => lL (eF j))))), (gR zi, .inl (cG, 660, .inl (fun j => iI (bI (gF j)))))]) [(mm, .inr (4, [.int (iI fa), .ref tA, .int (iI ((nn : Int))), .int (iI pl), .int (iI yr), .int (iI mn), .int (iI dy), .int (iI ((i : Int))), .ref oA, .ref sA, .ref eA, .ref gA, .ref cA, .ref rA, .ref fA])), (eA, .inl (cJJ, 8, .inr (.inr (.inr (.inr (fun k => some (eR k))))))), (gA, .inl (cGG, 8, .inr (.inr (.inr (.inr (fun k => some (gR k))))))), (cA, .inl (cI, 8, .inl cR)), (eR zi, .inl (cJ, 660, .inr (.inl (vp_updL (fun j => lL (evSh eF en k j)) k (lL t))))), (gR zi, .inl (cG, 660, .inl (fun j => iI (bI (evSh gF en k j)))))] := hD
      rw [evPut_upL (F := eF) (n := en) (k := k) (x := t)] at hP hD
      refine lv_aload_n hx hb d_Ref_event_120 rfl (lv_at hl 1 rfl) ?_
      refine g_get hx hb hk hown hK hP 0 rfl f_Ref_31 rfl d_Ref_event_121 ?_
      refine lv_iload_n hx hb d_Ref_event_124 rfl (lv_at hl 2 rfl) ?_
      refine g_aald (i := zi) hx hb hK hP 2 6 rfl hGG rfl (rfl) d_Ref_event_125 ?_
      refine lv_iload hx hb d_Ref_event_126 (lv_at hl 0 rfl) ?_
      refine lv_iload hx hb d_Ref_event_128 (lv_at hl 4 rfl) ?_
      refine g_zast (i := k) hx hb hK hP hD hS 5 3 rfl hG d_Ref_event_130 (fun H locs hP hD hS => ?_) (bI_vnar _) (by omega) (by decide)
      have hP : va_P D vwCl [(mm, .inr (4, [.int (iI fa), .ref tA, .int (iI ((nn : Int))), .int (iI pl), .int (iI yr), .int (iI mn), .int (iI dy), .int (iI ((i : Int))), .ref oA, .ref sA, .ref eA, .ref gA, .ref cA, .ref rA, .ref fA])), (eA, .inl (cJJ, 8, .inr (.inr (.inr (.inr (fun k => some (eR k))))))), (gA, .inl (cGG, 8, .inr (.inr (.inr (.inr (fun k => some (gR k))))))), (cA, .inl (cI, 8, .inl cR)), (eR zi, .inl (cJ, 660, .inr (.inl (fun j => lL (evPut eF k en t j))))), (gR zi, .inl (cG, 660, .inl (upd (fun j => iI (bI (evSh gF en k j))) k (iI (bI bg)))))] H := hP
      have hD : va_D (wA [(mm, .inr (4, [.int (iI fa), .ref tA, .int (iI ((nn : Int))), .int (iI pl), .int (iI yr), .int (iI mn), .int (iI dy), .int (iI ((i : Int))), .ref oA, .ref sA, .ref eA, .ref gA, .ref cA, .ref rA, .ref fA])), (eA, .inl (cJJ, 8, .inr (.inr (.inr (.inr (fun k => some (eR k))))))), (gA, .inl (cGG, 8, .inr (.inr (.inr (.inr (fun k => some (gR k))))))), (cA, .inl (cI, 8, .inl cR)), (eR zi, .inl (cJ, 660, .inr (.inl (fun j => lL (eF j))))), (gR zi, .inl (cG, 660, .inl (fun j => iI (bI (gF j)))))]) [(mm, .inr (4, [.int (iI fa), .ref tA, .int (iI ((nn : Int))), .int (iI pl), .int (iI yr), .int (iI mn), .int (iI dy), .int (iI ((i : Int))), .ref oA, .ref sA, .ref eA, .ref gA, .ref cA, .ref rA, .ref fA])), (eA, .inl (cJJ, 8, .inr (.inr (.inr (.inr (fun k => some (eR k))))))), (gA, .inl (cGG, 8, .inr (.inr (.inr (.inr (fun k => some (gR k))))))), (cA, .inl (cI, 8, .inl cR)), (eR zi, .inl (cJ, 660, .inr (.inl (fun j => lL (evPut eF k en t j))))), (gR zi, .inl (cG, 660, .inl (upd (fun j => iI (bI (evSh gF en k j))) k (iI (bI bg)))))] := hD
      rw [evPut_upG (F := gF) (n := en) (k := k) (x := bg)] at hP hD
      refine lv_aload_n hx hb d_Ref_event_131 rfl (lv_at hl 1 rfl) ?_
      refine g_get hx hb hk hown hK hP 0 rfl f_Ref_34 rfl d_Ref_event_132 ?_
      refine lv_iload_n hx hb d_Ref_event_135 rfl (lv_at hl 2 rfl) ?_
      refine lv_dup2_11 hx hb d_Ref_event_136 rfl rfl ?_
      refine g_iald (i := zi) hx hb hK hP 3 1 rfl hI d_Ref_event_137 ?_
      refine ri_v (congrArg Value.int ge) ?_
      refine lv_iconst (v := iI 1) hx hb d_Ref_event_138 rfl ?_
      refine ri_iadd hx hb d_Ref_event_139 ?_
      refine g_iast (i := zi) hx hb hK hP hD hS 3 1 rfl hI d_Ref_event_140 (fun H locs hP hD hS => ?_)
      have hP : va_P D vwCl [(mm, .inr (4, [.int (iI fa), .ref tA, .int (iI ((nn : Int))), .int (iI pl), .int (iI yr), .int (iI mn), .int (iI dy), .int (iI ((i : Int))), .ref oA, .ref sA, .ref eA, .ref gA, .ref cA, .ref rA, .ref fA])), (eA, .inl (cJJ, 8, .inr (.inr (.inr (.inr (fun k => some (eR k))))))), (gA, .inl (cGG, 8, .inr (.inr (.inr (.inr (fun k => some (gR k))))))), (cA, .inl (cI, 8, .inl (upd cR zi (iI (((en : Int)) + 1))))), (eR zi, .inl (cJ, 660, .inr (.inl (fun j => lL (evPut eF k en t j))))), (gR zi, .inl (cG, 660, .inl (fun j => iI (bI (evPut gF k en bg j)))))] H := hP
      have hD : va_D (wA [(mm, .inr (4, [.int (iI fa), .ref tA, .int (iI ((nn : Int))), .int (iI pl), .int (iI yr), .int (iI mn), .int (iI dy), .int (iI ((i : Int))), .ref oA, .ref sA, .ref eA, .ref gA, .ref cA, .ref rA, .ref fA])), (eA, .inl (cJJ, 8, .inr (.inr (.inr (.inr (fun k => some (eR k))))))), (gA, .inl (cGG, 8, .inr (.inr (.inr (.inr (fun k => some (gR k))))))), (cA, .inl (cI, 8, .inl cR)), (eR zi, .inl (cJ, 660, .inr (.inl (fun j => lL (eF j))))), (gR zi, .inl (cG, 660, .inl (fun j => iI (bI (gF j)))))]) [(mm, .inr (4, [.int (iI fa), .ref tA, .int (iI ((nn : Int))), .int (iI pl), .int (iI yr), .int (iI mn), .int (iI dy), .int (iI ((i : Int))), .ref oA, .ref sA, .ref eA, .ref gA, .ref cA, .ref rA, .ref fA])), (eA, .inl (cJJ, 8, .inr (.inr (.inr (.inr (fun k => some (eR k))))))), (gA, .inl (cGG, 8, .inr (.inr (.inr (.inr (fun k => some (gR k))))))), (cA, .inl (cI, 8, .inl (upd cR zi (iI (((en : Int)) + 1))))), (eR zi, .inl (cJ, 660, .inr (.inl (fun j => lL (evPut eF k en t j))))), (gR zi, .inl (cG, 660, .inl (fun j => iI (bI (evPut gF k en bg j)))))] := hD
      exact m_vret hx hb hr hlk hP hS d_Ref_event_141 (by rw [hv, hst])
    · refine lv_aload_n hx hb d_Ref_event_13 rfl (lv_at hl 1 rfl) ?_
      refine g_get hx hb hk hown hK hP 0 rfl f_Ref_26 rfl d_Ref_event_14 ?_
      refine lv_iload_n hx hb d_Ref_event_17 rfl (lv_at hl 2 rfl) ?_
      refine g_aald (i := zi) hx hb hK hP 1 5 rfl hJJ rfl (rfl) d_Ref_event_18 ?_
      refine lv_iload hx hb d_Ref_event_19 (lv_at hl 0 rfl) ?_
      refine lv_iconst (v := iI 1) hx hb d_Ref_event_21 rfl ?_
      refine ri_isub hx hb d_Ref_event_22 ?_
      refine ri_i (show ((k : Int)) - 1 = ((k - 1 : Nat) : Int) from by omega) ?_
      refine g_lald (i := k - 1) hx hb hK hP 4 2 rfl hJ d_Ref_event_23 ?_ (by omega) (by decide)
      have gq := gs (k - 1) (by omega)
      refine lv_lload_n hx hb d_Ref_event_24 rfl (lv_at hl 3 rfl) ?_
      refine ri_lcmp_gt (tgt := 64) hx hb d_Ref_event_25 d_Ref_event_26 (by decide) (fun h25 => ?_) (fun h25 => ?_)
      · refine lv_aload_n hx hb d_Ref_event_64 rfl (lv_at hl 1 rfl) ?_
        refine g_get hx hb hk hown hK hP 0 rfl f_Ref_26 rfl d_Ref_event_65 ?_
        refine lv_iload_n hx hb d_Ref_event_68 rfl (lv_at hl 2 rfl) ?_
        refine g_aald (i := zi) hx hb hK hP 1 5 rfl hJJ rfl (rfl) d_Ref_event_69 ?_
        refine lv_iload hx hb d_Ref_event_70 (lv_at hl 0 rfl) ?_
        refine lv_aload_n hx hb d_Ref_event_72 rfl (lv_at hl 1 rfl) ?_
        refine g_get hx hb hk hown hK hP 0 rfl f_Ref_26 rfl d_Ref_event_73 ?_
        refine lv_iload_n hx hb d_Ref_event_76 rfl (lv_at hl 2 rfl) ?_
        refine g_aald (i := zi) hx hb hK hP 1 5 rfl hJJ rfl (rfl) d_Ref_event_77 ?_
        refine lv_iload hx hb d_Ref_event_78 (lv_at hl 0 rfl) ?_
        refine lv_iconst (v := iI 1) hx hb d_Ref_event_80 rfl ?_
        refine ri_isub hx hb d_Ref_event_81 ?_
        refine ri_i (show ((k : Int)) - 1 = ((k - 1 : Nat) : Int) from by omega) ?_
        refine g_lald (i := k - 1) hx hb hK hP 4 2 rfl hJ d_Ref_event_82 ?_ (by omega) (by decide)
        refine g_last (i := k) hx hb hK hP hD hS 4 2 rfl hJ d_Ref_event_83 (fun H locs hP hD hS => ?_) (by omega) (by decide)
        have hP : va_P D vwCl [(mm, .inr (4, [.int (iI fa), .ref tA, .int (iI ((nn : Int))), .int (iI pl), .int (iI yr), .int (iI mn), .int (iI dy), .int (iI ((i : Int))), .ref oA, .ref sA, .ref eA, .ref gA, .ref cA, .ref rA, .ref fA])), (eA, .inl (cJJ, 8, .inr (.inr (.inr (.inr (fun k => some (eR k))))))), (gA, .inl (cGG, 8, .inr (.inr (.inr (.inr (fun k => some (gR k))))))), (cA, .inl (cI, 8, .inl cR)), (eR zi, .inl (cJ, 660, .inr (.inl (vp_updL (fun j => lL (evSh eF en k j)) k (lL (evSh eF en k (k - 1))))))), (gR zi, .inl (cG, 660, .inl (fun j => iI (bI (evSh gF en k j)))))] H := hP
        have hD : va_D (wA [(mm, .inr (4, [.int (iI fa), .ref tA, .int (iI ((nn : Int))), .int (iI pl), .int (iI yr), .int (iI mn), .int (iI dy), .int (iI ((i : Int))), .ref oA, .ref sA, .ref eA, .ref gA, .ref cA, .ref rA, .ref fA])), (eA, .inl (cJJ, 8, .inr (.inr (.inr (.inr (fun k => some (eR k))))))), (gA, .inl (cGG, 8, .inr (.inr (.inr (.inr (fun k => some (gR k))))))), (cA, .inl (cI, 8, .inl cR)), (eR zi, .inl (cJ, 660, .inr (.inl (fun j => lL (eF j))))), (gR zi, .inl (cG, 660, .inl (fun j => iI (bI (gF j)))))]) [(mm, .inr (4, [.int (iI fa), .ref tA, .int (iI ((nn : Int))), .int (iI pl), .int (iI yr), .int (iI mn), .int (iI dy), .int (iI ((i : Int))), .ref oA, .ref sA, .ref eA, .ref gA, .ref cA, .ref rA, .ref fA])), (eA, .inl (cJJ, 8, .inr (.inr (.inr (.inr (fun k => some (eR k))))))), (gA, .inl (cGG, 8, .inr (.inr (.inr (.inr (fun k => some (gR k))))))), (cA, .inl (cI, 8, .inl cR)), (eR zi, .inl (cJ, 660, .inr (.inl (vp_updL (fun j => lL (evSh eF en k j)) k (lL (evSh eF en k (k - 1))))))), (gR zi, .inl (cG, 660, .inl (fun j => iI (bI (evSh gF en k j)))))] := hD
        rw [evSh_upL (F := eF) (n := en) (k := k) (by omega) hke] at hP hD
        refine lv_aload_n hx hb d_Ref_event_84 rfl (lv_at hl 1 rfl) ?_
        refine g_get hx hb hk hown hK hP 0 rfl f_Ref_31 rfl d_Ref_event_85 ?_
        refine lv_iload_n hx hb d_Ref_event_88 rfl (lv_at hl 2 rfl) ?_
        refine g_aald (i := zi) hx hb hK hP 2 6 rfl hGG rfl (rfl) d_Ref_event_89 ?_
        refine lv_iload hx hb d_Ref_event_90 (lv_at hl 0 rfl) ?_
        refine lv_aload_n hx hb d_Ref_event_92 rfl (lv_at hl 1 rfl) ?_
        refine g_get hx hb hk hown hK hP 0 rfl f_Ref_31 rfl d_Ref_event_93 ?_
        refine lv_iload_n hx hb d_Ref_event_96 rfl (lv_at hl 2 rfl) ?_
        refine g_aald (i := zi) hx hb hK hP 2 6 rfl hGG rfl (rfl) d_Ref_event_97 ?_
        refine lv_iload hx hb d_Ref_event_98 (lv_at hl 0 rfl) ?_
        refine lv_iconst (v := iI 1) hx hb d_Ref_event_100 rfl ?_
        refine ri_isub hx hb d_Ref_event_101 ?_
        refine ri_i (show ((k : Int)) - 1 = ((k - 1 : Nat) : Int) from by omega) ?_
        refine g_zald (i := k - 1) hx hb hK hP 5 3 rfl hG d_Ref_event_102 ?_ (by omega) (by decide)
        refine g_zast (i := k) hx hb hK hP hD hS 5 3 rfl hG d_Ref_event_103 (fun H locs hP hD hS => ?_) (bI_vnar _) (by omega) (by decide)
        have hP : va_P D vwCl [(mm, .inr (4, [.int (iI fa), .ref tA, .int (iI ((nn : Int))), .int (iI pl), .int (iI yr), .int (iI mn), .int (iI dy), .int (iI ((i : Int))), .ref oA, .ref sA, .ref eA, .ref gA, .ref cA, .ref rA, .ref fA])), (eA, .inl (cJJ, 8, .inr (.inr (.inr (.inr (fun k => some (eR k))))))), (gA, .inl (cGG, 8, .inr (.inr (.inr (.inr (fun k => some (gR k))))))), (cA, .inl (cI, 8, .inl cR)), (eR zi, .inl (cJ, 660, .inr (.inl (fun j => lL (evSh eF en (k - 1) j))))), (gR zi, .inl (cG, 660, .inl (upd (fun j => iI (bI (evSh gF en k j))) k (iI (bI (evSh gF en k (k - 1)))))))] H := hP
        have hD : va_D (wA [(mm, .inr (4, [.int (iI fa), .ref tA, .int (iI ((nn : Int))), .int (iI pl), .int (iI yr), .int (iI mn), .int (iI dy), .int (iI ((i : Int))), .ref oA, .ref sA, .ref eA, .ref gA, .ref cA, .ref rA, .ref fA])), (eA, .inl (cJJ, 8, .inr (.inr (.inr (.inr (fun k => some (eR k))))))), (gA, .inl (cGG, 8, .inr (.inr (.inr (.inr (fun k => some (gR k))))))), (cA, .inl (cI, 8, .inl cR)), (eR zi, .inl (cJ, 660, .inr (.inl (fun j => lL (eF j))))), (gR zi, .inl (cG, 660, .inl (fun j => iI (bI (gF j)))))]) [(mm, .inr (4, [.int (iI fa), .ref tA, .int (iI ((nn : Int))), .int (iI pl), .int (iI yr), .int (iI mn), .int (iI dy), .int (iI ((i : Int))), .ref oA, .ref sA, .ref eA, .ref gA, .ref cA, .ref rA, .ref fA])), (eA, .inl (cJJ, 8, .inr (.inr (.inr (.inr (fun k => some (eR k))))))), (gA, .inl (cGG, 8, .inr (.inr (.inr (.inr (fun k => some (gR k))))))), (cA, .inl (cI, 8, .inl cR)), (eR zi, .inl (cJ, 660, .inr (.inl (fun j => lL (evSh eF en (k - 1) j))))), (gR zi, .inl (cG, 660, .inl (upd (fun j => iI (bI (evSh gF en k j))) k (iI (bI (evSh gF en k (k - 1)))))))] := hD
        rw [evSh_upG (F := gF) (n := en) (k := k) (by omega) hke] at hP hD
        refine lv_iinc (k := 0) (v := iI ((k : Int) - 1)) (lv' := [(5, .int (iI ((k : Int) - 1))), (0, .ref mm), (1, .int (iI ((zi : Int)))), (2, .long (lL t)), (4, .int (iI (bI bg)))]) hx hb d_Ref_event_104 hl rfl ((iI_add _ _).trans (congrArg iI (by omega))) (by decide) rfl (fun ls hl => ?_)
        refine lv_goto (tgt := 8) hx hb d_Ref_event_107 (by decide) ?_
        have hl : lv_has ls 6 [(5, .int (iI (((k - 1 : Nat) : Int)))), (0, .ref mm), (1, .int (iI ((zi : Int)))), (2, .long (lL t)), (4, .int (iI (bI bg)))] := by rw [show ((k - 1 : Nat) : Int) = (k : Int) - 1 from by omega]; exact hl
        have hc : eF (k - 1) > t ∨ (eF (k - 1) = t ∧ bg = true ∧ gF (k - 1) = false) := by
          have q1 := evSh_at (F := eF) (n := en) (k := k) (j := k - 1) (by omega)
          first
          | exact Or.inl (by omega)
          | exact Or.inr ⟨by omega, bI_e1 h47, by rw [← evSh_at (F := gF) (n := en) (k := k) (j := k - 1) (by omega)]; exact bI_e0 h61⟩
        exact ih _ (by omega) (k - 1) ls _ _ (by omega) (hv.trans (evPos_go (by omega) hc)) rfl hP hD hS (lv_sub hl [0, 1, 2, 3, 4] rfl)
      · refine lv_aload_n hx hb d_Ref_event_29 rfl (lv_at hl 1 rfl) ?_
        refine g_get hx hb hk hown hK hP 0 rfl f_Ref_26 rfl d_Ref_event_30 ?_
        refine lv_iload_n hx hb d_Ref_event_33 rfl (lv_at hl 2 rfl) ?_
        refine g_aald (i := zi) hx hb hK hP 1 5 rfl hJJ rfl (rfl) d_Ref_event_34 ?_
        refine lv_iload hx hb d_Ref_event_35 (lv_at hl 0 rfl) ?_
        refine lv_iconst (v := iI 1) hx hb d_Ref_event_37 rfl ?_
        refine ri_isub hx hb d_Ref_event_38 ?_
        refine ri_i (show ((k : Int)) - 1 = ((k - 1 : Nat) : Int) from by omega) ?_
        refine g_lald (i := k - 1) hx hb hK hP 4 2 rfl hJ d_Ref_event_39 ?_ (by omega) (by decide)
        refine lv_lload_n hx hb d_Ref_event_40 rfl (lv_at hl 3 rfl) ?_
        refine ri_lcmp_ne (tgt := 110) hx hb d_Ref_event_41 d_Ref_event_42 (by decide) (fun h41 => ?_) (fun h41 => ?_)
        · have hst : evPos eF gF t bg k = k := evPos_st (by
            by_cases h0 : k = 0
            · exact Or.inl h0
            · have q1 := evSh_at (F := eF) (n := en) (k := k) (j := k - 1) (by omega)
              have q2 := evSh_at (F := gF) (n := en) (k := k) (j := k - 1) (by omega)
              refine Or.inr (fun hc => ?_)
              rcases hc with hc | ⟨hc1, hc2, hc3⟩
              · omega
              · first
                | omega
                | (rw [hc2] at h47; exact absurd h47 (by decide))
                | (rw [q2, hc3] at h61; exact absurd rfl h61))
          refine lv_aload_n hx hb d_Ref_event_110 rfl (lv_at hl 1 rfl) ?_
          refine g_get hx hb hk hown hK hP 0 rfl f_Ref_26 rfl d_Ref_event_111 ?_
          refine lv_iload_n hx hb d_Ref_event_114 rfl (lv_at hl 2 rfl) ?_
          refine g_aald (i := zi) hx hb hK hP 1 5 rfl hJJ rfl (rfl) d_Ref_event_115 ?_
          refine lv_iload hx hb d_Ref_event_116 (lv_at hl 0 rfl) ?_
          refine lv_lload_n hx hb d_Ref_event_118 rfl (lv_at hl 3 rfl) ?_
          refine g_last (i := k) hx hb hK hP hD hS 4 2 rfl hJ d_Ref_event_119 (fun H locs hP hD hS => ?_) (by omega) (by decide)
          have hP : va_P D vwCl [(mm, .inr (4, [.int (iI fa), .ref tA, .int (iI ((nn : Int))), .int (iI pl), .int (iI yr), .int (iI mn), .int (iI dy), .int (iI ((i : Int))), .ref oA, .ref sA, .ref eA, .ref gA, .ref cA, .ref rA, .ref fA])), (eA, .inl (cJJ, 8, .inr (.inr (.inr (.inr (fun k => some (eR k))))))), (gA, .inl (cGG, 8, .inr (.inr (.inr (.inr (fun k => some (gR k))))))), (cA, .inl (cI, 8, .inl cR)), (eR zi, .inl (cJ, 660, .inr (.inl (vp_updL (fun j => lL (evSh eF en k j)) k (lL t))))), (gR zi, .inl (cG, 660, .inl (fun j => iI (bI (evSh gF en k j)))))] H := hP
          have hD : va_D (wA [(mm, .inr (4, [.int (iI fa), .ref tA, .int (iI ((nn : Int))), .int (iI pl), .int (iI yr), .int (iI mn), .int (iI dy), .int (iI ((i : Int))), .ref oA, .ref sA, .ref eA, .ref gA, .ref cA, .ref rA, .ref fA])), (eA, .inl (cJJ, 8, .inr (.inr (.inr (.inr (fun k => some (eR k))))))), (gA, .inl (cGG, 8, .inr (.inr (.inr (.inr (fun k => some (gR k))))))), (cA, .inl (cI, 8, .inl cR)), (eR zi, .inl (cJ, 660, .inr (.inl (fun j => lL (eF j))))), (gR zi, .inl (cG, 660, .inl (fun j => iI (bI (gF j)))))]) [(mm, .inr (4, [.int (iI fa), .ref tA, .int (iI ((nn : Int))), .int (iI pl), .int (iI yr), .int (iI mn), .int (iI dy), .int (iI ((i : Int))), .ref oA, .ref sA, .ref eA, .ref gA, .ref cA, .ref rA, .ref fA])), (eA, .inl (cJJ, 8, .inr (.inr (.inr (.inr (fun k => some (eR k))))))), (gA, .inl (cGG, 8, .inr (.inr (.inr (.inr (fun k => some (gR k))))))), (cA, .inl (cI, 8, .inl cR)), (eR zi, .inl (cJ, 660, .inr (.inl (vp_updL (fun j => lL (evSh eF en k j)) k (lL t))))), (gR zi, .inl (cG, 660, .inl (fun j => iI (bI (evSh gF en k j)))))] := hD
          rw [evPut_upL (F := eF) (n := en) (k := k) (x := t)] at hP hD
          refine lv_aload_n hx hb d_Ref_event_120 rfl (lv_at hl 1 rfl) ?_
          refine g_get hx hb hk hown hK hP 0 rfl f_Ref_31 rfl d_Ref_event_121 ?_
          refine lv_iload_n hx hb d_Ref_event_124 rfl (lv_at hl 2 rfl) ?_
          refine g_aald (i := zi) hx hb hK hP 2 6 rfl hGG rfl (rfl) d_Ref_event_125 ?_
          refine lv_iload hx hb d_Ref_event_126 (lv_at hl 0 rfl) ?_
          refine lv_iload hx hb d_Ref_event_128 (lv_at hl 4 rfl) ?_
          refine g_zast (i := k) hx hb hK hP hD hS 5 3 rfl hG d_Ref_event_130 (fun H locs hP hD hS => ?_) (bI_vnar _) (by omega) (by decide)
          have hP : va_P D vwCl [(mm, .inr (4, [.int (iI fa), .ref tA, .int (iI ((nn : Int))), .int (iI pl), .int (iI yr), .int (iI mn), .int (iI dy), .int (iI ((i : Int))), .ref oA, .ref sA, .ref eA, .ref gA, .ref cA, .ref rA, .ref fA])), (eA, .inl (cJJ, 8, .inr (.inr (.inr (.inr (fun k => some (eR k))))))), (gA, .inl (cGG, 8, .inr (.inr (.inr (.inr (fun k => some (gR k))))))), (cA, .inl (cI, 8, .inl cR)), (eR zi, .inl (cJ, 660, .inr (.inl (fun j => lL (evPut eF k en t j))))), (gR zi, .inl (cG, 660, .inl (upd (fun j => iI (bI (evSh gF en k j))) k (iI (bI bg)))))] H := hP
          have hD : va_D (wA [(mm, .inr (4, [.int (iI fa), .ref tA, .int (iI ((nn : Int))), .int (iI pl), .int (iI yr), .int (iI mn), .int (iI dy), .int (iI ((i : Int))), .ref oA, .ref sA, .ref eA, .ref gA, .ref cA, .ref rA, .ref fA])), (eA, .inl (cJJ, 8, .inr (.inr (.inr (.inr (fun k => some (eR k))))))), (gA, .inl (cGG, 8, .inr (.inr (.inr (.inr (fun k => some (gR k))))))), (cA, .inl (cI, 8, .inl cR)), (eR zi, .inl (cJ, 660, .inr (.inl (fun j => lL (eF j))))), (gR zi, .inl (cG, 660, .inl (fun j => iI (bI (gF j)))))]) [(mm, .inr (4, [.int (iI fa), .ref tA, .int (iI ((nn : Int))), .int (iI pl), .int (iI yr), .int (iI mn), .int (iI dy), .int (iI ((i : Int))), .ref oA, .ref sA, .ref eA, .ref gA, .ref cA, .ref rA, .ref fA])), (eA, .inl (cJJ, 8, .inr (.inr (.inr (.inr (fun k => some (eR k))))))), (gA, .inl (cGG, 8, .inr (.inr (.inr (.inr (fun k => some (gR k))))))), (cA, .inl (cI, 8, .inl cR)), (eR zi, .inl (cJ, 660, .inr (.inl (fun j => lL (evPut eF k en t j))))), (gR zi, .inl (cG, 660, .inl (upd (fun j => iI (bI (evSh gF en k j))) k (iI (bI bg)))))] := hD
          rw [evPut_upG (F := gF) (n := en) (k := k) (x := bg)] at hP hD
          refine lv_aload_n hx hb d_Ref_event_131 rfl (lv_at hl 1 rfl) ?_
          refine g_get hx hb hk hown hK hP 0 rfl f_Ref_34 rfl d_Ref_event_132 ?_
          refine lv_iload_n hx hb d_Ref_event_135 rfl (lv_at hl 2 rfl) ?_
          refine lv_dup2_11 hx hb d_Ref_event_136 rfl rfl ?_
          refine g_iald (i := zi) hx hb hK hP 3 1 rfl hI d_Ref_event_137 ?_
          refine ri_v (congrArg Value.int ge) ?_
          refine lv_iconst (v := iI 1) hx hb d_Ref_event_138 rfl ?_
          refine ri_iadd hx hb d_Ref_event_139 ?_
          refine g_iast (i := zi) hx hb hK hP hD hS 3 1 rfl hI d_Ref_event_140 (fun H locs hP hD hS => ?_)
          have hP : va_P D vwCl [(mm, .inr (4, [.int (iI fa), .ref tA, .int (iI ((nn : Int))), .int (iI pl), .int (iI yr), .int (iI mn), .int (iI dy), .int (iI ((i : Int))), .ref oA, .ref sA, .ref eA, .ref gA, .ref cA, .ref rA, .ref fA])), (eA, .inl (cJJ, 8, .inr (.inr (.inr (.inr (fun k => some (eR k))))))), (gA, .inl (cGG, 8, .inr (.inr (.inr (.inr (fun k => some (gR k))))))), (cA, .inl (cI, 8, .inl (upd cR zi (iI (((en : Int)) + 1))))), (eR zi, .inl (cJ, 660, .inr (.inl (fun j => lL (evPut eF k en t j))))), (gR zi, .inl (cG, 660, .inl (fun j => iI (bI (evPut gF k en bg j)))))] H := hP
          have hD : va_D (wA [(mm, .inr (4, [.int (iI fa), .ref tA, .int (iI ((nn : Int))), .int (iI pl), .int (iI yr), .int (iI mn), .int (iI dy), .int (iI ((i : Int))), .ref oA, .ref sA, .ref eA, .ref gA, .ref cA, .ref rA, .ref fA])), (eA, .inl (cJJ, 8, .inr (.inr (.inr (.inr (fun k => some (eR k))))))), (gA, .inl (cGG, 8, .inr (.inr (.inr (.inr (fun k => some (gR k))))))), (cA, .inl (cI, 8, .inl cR)), (eR zi, .inl (cJ, 660, .inr (.inl (fun j => lL (eF j))))), (gR zi, .inl (cG, 660, .inl (fun j => iI (bI (gF j)))))]) [(mm, .inr (4, [.int (iI fa), .ref tA, .int (iI ((nn : Int))), .int (iI pl), .int (iI yr), .int (iI mn), .int (iI dy), .int (iI ((i : Int))), .ref oA, .ref sA, .ref eA, .ref gA, .ref cA, .ref rA, .ref fA])), (eA, .inl (cJJ, 8, .inr (.inr (.inr (.inr (fun k => some (eR k))))))), (gA, .inl (cGG, 8, .inr (.inr (.inr (.inr (fun k => some (gR k))))))), (cA, .inl (cI, 8, .inl (upd cR zi (iI (((en : Int)) + 1))))), (eR zi, .inl (cJ, 660, .inr (.inl (fun j => lL (evPut eF k en t j))))), (gR zi, .inl (cG, 660, .inl (fun j => iI (bI (evPut gF k en bg j)))))] := hD
          exact m_vret hx hb hr hlk hP hS d_Ref_event_141 (by rw [hv, hst])
        · refine lv_iload hx hb d_Ref_event_45 (lv_at hl 4 rfl) ?_
          have gL := bI_b bg
          refine ri_if_eq (tgt := 110) hx hb d_Ref_event_47 (by decide) (fun h47 => ?_) (fun h47 => ?_)
          · have hst : evPos eF gF t bg k = k := evPos_st (by
              by_cases h0 : k = 0
              · exact Or.inl h0
              · have q1 := evSh_at (F := eF) (n := en) (k := k) (j := k - 1) (by omega)
                have q2 := evSh_at (F := gF) (n := en) (k := k) (j := k - 1) (by omega)
                refine Or.inr (fun hc => ?_)
                rcases hc with hc | ⟨hc1, hc2, hc3⟩
                · omega
                · first
                  | omega
                  | (rw [hc2] at h47; exact absurd h47 (by decide))
                  | (rw [q2, hc3] at h61; exact absurd rfl h61))
            refine lv_aload_n hx hb d_Ref_event_110 rfl (lv_at hl 1 rfl) ?_
            refine g_get hx hb hk hown hK hP 0 rfl f_Ref_26 rfl d_Ref_event_111 ?_
            refine lv_iload_n hx hb d_Ref_event_114 rfl (lv_at hl 2 rfl) ?_
            refine g_aald (i := zi) hx hb hK hP 1 5 rfl hJJ rfl (rfl) d_Ref_event_115 ?_
            refine lv_iload hx hb d_Ref_event_116 (lv_at hl 0 rfl) ?_
            refine lv_lload_n hx hb d_Ref_event_118 rfl (lv_at hl 3 rfl) ?_
            refine g_last (i := k) hx hb hK hP hD hS 4 2 rfl hJ d_Ref_event_119 (fun H locs hP hD hS => ?_) (by omega) (by decide)
            have hP : va_P D vwCl [(mm, .inr (4, [.int (iI fa), .ref tA, .int (iI ((nn : Int))), .int (iI pl), .int (iI yr), .int (iI mn), .int (iI dy), .int (iI ((i : Int))), .ref oA, .ref sA, .ref eA, .ref gA, .ref cA, .ref rA, .ref fA])), (eA, .inl (cJJ, 8, .inr (.inr (.inr (.inr (fun k => some (eR k))))))), (gA, .inl (cGG, 8, .inr (.inr (.inr (.inr (fun k => some (gR k))))))), (cA, .inl (cI, 8, .inl cR)), (eR zi, .inl (cJ, 660, .inr (.inl (vp_updL (fun j => lL (evSh eF en k j)) k (lL t))))), (gR zi, .inl (cG, 660, .inl (fun j => iI (bI (evSh gF en k j)))))] H := hP
            have hD : va_D (wA [(mm, .inr (4, [.int (iI fa), .ref tA, .int (iI ((nn : Int))), .int (iI pl), .int (iI yr), .int (iI mn), .int (iI dy), .int (iI ((i : Int))), .ref oA, .ref sA, .ref eA, .ref gA, .ref cA, .ref rA, .ref fA])), (eA, .inl (cJJ, 8, .inr (.inr (.inr (.inr (fun k => some (eR k))))))), (gA, .inl (cGG, 8, .inr (.inr (.inr (.inr (fun k => some (gR k))))))), (cA, .inl (cI, 8, .inl cR)), (eR zi, .inl (cJ, 660, .inr (.inl (fun j => lL (eF j))))), (gR zi, .inl (cG, 660, .inl (fun j => iI (bI (gF j)))))]) [(mm, .inr (4, [.int (iI fa), .ref tA, .int (iI ((nn : Int))), .int (iI pl), .int (iI yr), .int (iI mn), .int (iI dy), .int (iI ((i : Int))), .ref oA, .ref sA, .ref eA, .ref gA, .ref cA, .ref rA, .ref fA])), (eA, .inl (cJJ, 8, .inr (.inr (.inr (.inr (fun k => some (eR k))))))), (gA, .inl (cGG, 8, .inr (.inr (.inr (.inr (fun k => some (gR k))))))), (cA, .inl (cI, 8, .inl cR)), (eR zi, .inl (cJ, 660, .inr (.inl (vp_updL (fun j => lL (evSh eF en k j)) k (lL t))))), (gR zi, .inl (cG, 660, .inl (fun j => iI (bI (evSh gF en k j)))))] := hD
            rw [evPut_upL (F := eF) (n := en) (k := k) (x := t)] at hP hD
            refine lv_aload_n hx hb d_Ref_event_120 rfl (lv_at hl 1 rfl) ?_
            refine g_get hx hb hk hown hK hP 0 rfl f_Ref_31 rfl d_Ref_event_121 ?_
            refine lv_iload_n hx hb d_Ref_event_124 rfl (lv_at hl 2 rfl) ?_
            refine g_aald (i := zi) hx hb hK hP 2 6 rfl hGG rfl (rfl) d_Ref_event_125 ?_
            refine lv_iload hx hb d_Ref_event_126 (lv_at hl 0 rfl) ?_
            refine lv_iload hx hb d_Ref_event_128 (lv_at hl 4 rfl) ?_
            refine g_zast (i := k) hx hb hK hP hD hS 5 3 rfl hG d_Ref_event_130 (fun H locs hP hD hS => ?_) (bI_vnar _) (by omega) (by decide)
            have hP : va_P D vwCl [(mm, .inr (4, [.int (iI fa), .ref tA, .int (iI ((nn : Int))), .int (iI pl), .int (iI yr), .int (iI mn), .int (iI dy), .int (iI ((i : Int))), .ref oA, .ref sA, .ref eA, .ref gA, .ref cA, .ref rA, .ref fA])), (eA, .inl (cJJ, 8, .inr (.inr (.inr (.inr (fun k => some (eR k))))))), (gA, .inl (cGG, 8, .inr (.inr (.inr (.inr (fun k => some (gR k))))))), (cA, .inl (cI, 8, .inl cR)), (eR zi, .inl (cJ, 660, .inr (.inl (fun j => lL (evPut eF k en t j))))), (gR zi, .inl (cG, 660, .inl (upd (fun j => iI (bI (evSh gF en k j))) k (iI (bI bg)))))] H := hP
            have hD : va_D (wA [(mm, .inr (4, [.int (iI fa), .ref tA, .int (iI ((nn : Int))), .int (iI pl), .int (iI yr), .int (iI mn), .int (iI dy), .int (iI ((i : Int))), .ref oA, .ref sA, .ref eA, .ref gA, .ref cA, .ref rA, .ref fA])), (eA, .inl (cJJ, 8, .inr (.inr (.inr (.inr (fun k => some (eR k))))))), (gA, .inl (cGG, 8, .inr (.inr (.inr (.inr (fun k => some (gR k))))))), (cA, .inl (cI, 8, .inl cR)), (eR zi, .inl (cJ, 660, .inr (.inl (fun j => lL (eF j))))), (gR zi, .inl (cG, 660, .inl (fun j => iI (bI (gF j)))))]) [(mm, .inr (4, [.int (iI fa), .ref tA, .int (iI ((nn : Int))), .int (iI pl), .int (iI yr), .int (iI mn), .int (iI dy), .int (iI ((i : Int))), .ref oA, .ref sA, .ref eA, .ref gA, .ref cA, .ref rA, .ref fA])), (eA, .inl (cJJ, 8, .inr (.inr (.inr (.inr (fun k => some (eR k))))))), (gA, .inl (cGG, 8, .inr (.inr (.inr (.inr (fun k => some (gR k))))))), (cA, .inl (cI, 8, .inl cR)), (eR zi, .inl (cJ, 660, .inr (.inl (fun j => lL (evPut eF k en t j))))), (gR zi, .inl (cG, 660, .inl (upd (fun j => iI (bI (evSh gF en k j))) k (iI (bI bg)))))] := hD
            rw [evPut_upG (F := gF) (n := en) (k := k) (x := bg)] at hP hD
            refine lv_aload_n hx hb d_Ref_event_131 rfl (lv_at hl 1 rfl) ?_
            refine g_get hx hb hk hown hK hP 0 rfl f_Ref_34 rfl d_Ref_event_132 ?_
            refine lv_iload_n hx hb d_Ref_event_135 rfl (lv_at hl 2 rfl) ?_
            refine lv_dup2_11 hx hb d_Ref_event_136 rfl rfl ?_
            refine g_iald (i := zi) hx hb hK hP 3 1 rfl hI d_Ref_event_137 ?_
            refine ri_v (congrArg Value.int ge) ?_
            refine lv_iconst (v := iI 1) hx hb d_Ref_event_138 rfl ?_
            refine ri_iadd hx hb d_Ref_event_139 ?_
            refine g_iast (i := zi) hx hb hK hP hD hS 3 1 rfl hI d_Ref_event_140 (fun H locs hP hD hS => ?_)
            have hP : va_P D vwCl [(mm, .inr (4, [.int (iI fa), .ref tA, .int (iI ((nn : Int))), .int (iI pl), .int (iI yr), .int (iI mn), .int (iI dy), .int (iI ((i : Int))), .ref oA, .ref sA, .ref eA, .ref gA, .ref cA, .ref rA, .ref fA])), (eA, .inl (cJJ, 8, .inr (.inr (.inr (.inr (fun k => some (eR k))))))), (gA, .inl (cGG, 8, .inr (.inr (.inr (.inr (fun k => some (gR k))))))), (cA, .inl (cI, 8, .inl (upd cR zi (iI (((en : Int)) + 1))))), (eR zi, .inl (cJ, 660, .inr (.inl (fun j => lL (evPut eF k en t j))))), (gR zi, .inl (cG, 660, .inl (fun j => iI (bI (evPut gF k en bg j)))))] H := hP
            have hD : va_D (wA [(mm, .inr (4, [.int (iI fa), .ref tA, .int (iI ((nn : Int))), .int (iI pl), .int (iI yr), .int (iI mn), .int (iI dy), .int (iI ((i : Int))), .ref oA, .ref sA, .ref eA, .ref gA, .ref cA, .ref rA, .ref fA])), (eA, .inl (cJJ, 8, .inr (.inr (.inr (.inr (fun k => some (eR k))))))), (gA, .inl (cGG, 8, .inr (.inr (.inr (.inr (fun k => some (gR k))))))), (cA, .inl (cI, 8, .inl cR)), (eR zi, .inl (cJ, 660, .inr (.inl (fun j => lL (eF j))))), (gR zi, .inl (cG, 660, .inl (fun j => iI (bI (gF j)))))]) [(mm, .inr (4, [.int (iI fa), .ref tA, .int (iI ((nn : Int))), .int (iI pl), .int (iI yr), .int (iI mn), .int (iI dy), .int (iI ((i : Int))), .ref oA, .ref sA, .ref eA, .ref gA, .ref cA, .ref rA, .ref fA])), (eA, .inl (cJJ, 8, .inr (.inr (.inr (.inr (fun k => some (eR k))))))), (gA, .inl (cGG, 8, .inr (.inr (.inr (.inr (fun k => some (gR k))))))), (cA, .inl (cI, 8, .inl (upd cR zi (iI (((en : Int)) + 1))))), (eR zi, .inl (cJ, 660, .inr (.inl (fun j => lL (evPut eF k en t j))))), (gR zi, .inl (cG, 660, .inl (fun j => iI (bI (evPut gF k en bg j)))))] := hD
            exact m_vret hx hb hr hlk hP hS d_Ref_event_141 (by rw [hv, hst])
          · refine lv_aload_n hx hb d_Ref_event_50 rfl (lv_at hl 1 rfl) ?_
            refine g_get hx hb hk hown hK hP 0 rfl f_Ref_31 rfl d_Ref_event_51 ?_
            refine lv_iload_n hx hb d_Ref_event_54 rfl (lv_at hl 2 rfl) ?_
            refine g_aald (i := zi) hx hb hK hP 2 6 rfl hGG rfl (rfl) d_Ref_event_55 ?_
            refine lv_iload hx hb d_Ref_event_56 (lv_at hl 0 rfl) ?_
            refine lv_iconst (v := iI 1) hx hb d_Ref_event_58 rfl ?_
            refine ri_isub hx hb d_Ref_event_59 ?_
            refine ri_i (show ((k : Int)) - 1 = ((k - 1 : Nat) : Int) from by omega) ?_
            refine g_zald (i := k - 1) hx hb hK hP 5 3 rfl hG d_Ref_event_60 ?_ (by omega) (by decide)
            have gL2 := bI_b (evSh gF en k (k - 1))
            refine ri_if_ne (tgt := 110) hx hb d_Ref_event_61 (by decide) (fun h61 => ?_) (fun h61 => ?_)
            · have hst : evPos eF gF t bg k = k := evPos_st (by
                by_cases h0 : k = 0
                · exact Or.inl h0
                · have q1 := evSh_at (F := eF) (n := en) (k := k) (j := k - 1) (by omega)
                  have q2 := evSh_at (F := gF) (n := en) (k := k) (j := k - 1) (by omega)
                  refine Or.inr (fun hc => ?_)
                  rcases hc with hc | ⟨hc1, hc2, hc3⟩
                  · omega
                  · first
                    | omega
                    | (rw [hc2] at h47; exact absurd h47 (by decide))
                    | (rw [q2, hc3] at h61; exact absurd rfl h61))
              refine lv_aload_n hx hb d_Ref_event_110 rfl (lv_at hl 1 rfl) ?_
              refine g_get hx hb hk hown hK hP 0 rfl f_Ref_26 rfl d_Ref_event_111 ?_
              refine lv_iload_n hx hb d_Ref_event_114 rfl (lv_at hl 2 rfl) ?_
              refine g_aald (i := zi) hx hb hK hP 1 5 rfl hJJ rfl (rfl) d_Ref_event_115 ?_
              refine lv_iload hx hb d_Ref_event_116 (lv_at hl 0 rfl) ?_
              refine lv_lload_n hx hb d_Ref_event_118 rfl (lv_at hl 3 rfl) ?_
              refine g_last (i := k) hx hb hK hP hD hS 4 2 rfl hJ d_Ref_event_119 (fun H locs hP hD hS => ?_) (by omega) (by decide)
              have hP : va_P D vwCl [(mm, .inr (4, [.int (iI fa), .ref tA, .int (iI ((nn : Int))), .int (iI pl), .int (iI yr), .int (iI mn), .int (iI dy), .int (iI ((i : Int))), .ref oA, .ref sA, .ref eA, .ref gA, .ref cA, .ref rA, .ref fA])), (eA, .inl (cJJ, 8, .inr (.inr (.inr (.inr (fun k => some (eR k))))))), (gA, .inl (cGG, 8, .inr (.inr (.inr (.inr (fun k => some (gR k))))))), (cA, .inl (cI, 8, .inl cR)), (eR zi, .inl (cJ, 660, .inr (.inl (vp_updL (fun j => lL (evSh eF en k j)) k (lL t))))), (gR zi, .inl (cG, 660, .inl (fun j => iI (bI (evSh gF en k j)))))] H := hP
              have hD : va_D (wA [(mm, .inr (4, [.int (iI fa), .ref tA, .int (iI ((nn : Int))), .int (iI pl), .int (iI yr), .int (iI mn), .int (iI dy), .int (iI ((i : Int))), .ref oA, .ref sA, .ref eA, .ref gA, .ref cA, .ref rA, .ref fA])), (eA, .inl (cJJ, 8, .inr (.inr (.inr (.inr (fun k => some (eR k))))))), (gA, .inl (cGG, 8, .inr (.inr (.inr (.inr (fun k => some (gR k))))))), (cA, .inl (cI, 8, .inl cR)), (eR zi, .inl (cJ, 660, .inr (.inl (fun j => lL (eF j))))), (gR zi, .inl (cG, 660, .inl (fun j => iI (bI (gF j)))))]) [(mm, .inr (4, [.int (iI fa), .ref tA, .int (iI ((nn : Int))), .int (iI pl), .int (iI yr), .int (iI mn), .int (iI dy), .int (iI ((i : Int))), .ref oA, .ref sA, .ref eA, .ref gA, .ref cA, .ref rA, .ref fA])), (eA, .inl (cJJ, 8, .inr (.inr (.inr (.inr (fun k => some (eR k))))))), (gA, .inl (cGG, 8, .inr (.inr (.inr (.inr (fun k => some (gR k))))))), (cA, .inl (cI, 8, .inl cR)), (eR zi, .inl (cJ, 660, .inr (.inl (vp_updL (fun j => lL (evSh eF en k j)) k (lL t))))), (gR zi, .inl (cG, 660, .inl (fun j => iI (bI (evSh gF en k j)))))] := hD
              rw [evPut_upL (F := eF) (n := en) (k := k) (x := t)] at hP hD
              refine lv_aload_n hx hb d_Ref_event_120 rfl (lv_at hl 1 rfl) ?_
              refine g_get hx hb hk hown hK hP 0 rfl f_Ref_31 rfl d_Ref_event_121 ?_
              refine lv_iload_n hx hb d_Ref_event_124 rfl (lv_at hl 2 rfl) ?_
              refine g_aald (i := zi) hx hb hK hP 2 6 rfl hGG rfl (rfl) d_Ref_event_125 ?_
              refine lv_iload hx hb d_Ref_event_126 (lv_at hl 0 rfl) ?_
              refine lv_iload hx hb d_Ref_event_128 (lv_at hl 4 rfl) ?_
              refine g_zast (i := k) hx hb hK hP hD hS 5 3 rfl hG d_Ref_event_130 (fun H locs hP hD hS => ?_) (bI_vnar _) (by omega) (by decide)
              have hP : va_P D vwCl [(mm, .inr (4, [.int (iI fa), .ref tA, .int (iI ((nn : Int))), .int (iI pl), .int (iI yr), .int (iI mn), .int (iI dy), .int (iI ((i : Int))), .ref oA, .ref sA, .ref eA, .ref gA, .ref cA, .ref rA, .ref fA])), (eA, .inl (cJJ, 8, .inr (.inr (.inr (.inr (fun k => some (eR k))))))), (gA, .inl (cGG, 8, .inr (.inr (.inr (.inr (fun k => some (gR k))))))), (cA, .inl (cI, 8, .inl cR)), (eR zi, .inl (cJ, 660, .inr (.inl (fun j => lL (evPut eF k en t j))))), (gR zi, .inl (cG, 660, .inl (upd (fun j => iI (bI (evSh gF en k j))) k (iI (bI bg)))))] H := hP
              have hD : va_D (wA [(mm, .inr (4, [.int (iI fa), .ref tA, .int (iI ((nn : Int))), .int (iI pl), .int (iI yr), .int (iI mn), .int (iI dy), .int (iI ((i : Int))), .ref oA, .ref sA, .ref eA, .ref gA, .ref cA, .ref rA, .ref fA])), (eA, .inl (cJJ, 8, .inr (.inr (.inr (.inr (fun k => some (eR k))))))), (gA, .inl (cGG, 8, .inr (.inr (.inr (.inr (fun k => some (gR k))))))), (cA, .inl (cI, 8, .inl cR)), (eR zi, .inl (cJ, 660, .inr (.inl (fun j => lL (eF j))))), (gR zi, .inl (cG, 660, .inl (fun j => iI (bI (gF j)))))]) [(mm, .inr (4, [.int (iI fa), .ref tA, .int (iI ((nn : Int))), .int (iI pl), .int (iI yr), .int (iI mn), .int (iI dy), .int (iI ((i : Int))), .ref oA, .ref sA, .ref eA, .ref gA, .ref cA, .ref rA, .ref fA])), (eA, .inl (cJJ, 8, .inr (.inr (.inr (.inr (fun k => some (eR k))))))), (gA, .inl (cGG, 8, .inr (.inr (.inr (.inr (fun k => some (gR k))))))), (cA, .inl (cI, 8, .inl cR)), (eR zi, .inl (cJ, 660, .inr (.inl (fun j => lL (evPut eF k en t j))))), (gR zi, .inl (cG, 660, .inl (upd (fun j => iI (bI (evSh gF en k j))) k (iI (bI bg)))))] := hD
              rw [evPut_upG (F := gF) (n := en) (k := k) (x := bg)] at hP hD
              refine lv_aload_n hx hb d_Ref_event_131 rfl (lv_at hl 1 rfl) ?_
              refine g_get hx hb hk hown hK hP 0 rfl f_Ref_34 rfl d_Ref_event_132 ?_
              refine lv_iload_n hx hb d_Ref_event_135 rfl (lv_at hl 2 rfl) ?_
              refine lv_dup2_11 hx hb d_Ref_event_136 rfl rfl ?_
              refine g_iald (i := zi) hx hb hK hP 3 1 rfl hI d_Ref_event_137 ?_
              refine ri_v (congrArg Value.int ge) ?_
              refine lv_iconst (v := iI 1) hx hb d_Ref_event_138 rfl ?_
              refine ri_iadd hx hb d_Ref_event_139 ?_
              refine g_iast (i := zi) hx hb hK hP hD hS 3 1 rfl hI d_Ref_event_140 (fun H locs hP hD hS => ?_)
              have hP : va_P D vwCl [(mm, .inr (4, [.int (iI fa), .ref tA, .int (iI ((nn : Int))), .int (iI pl), .int (iI yr), .int (iI mn), .int (iI dy), .int (iI ((i : Int))), .ref oA, .ref sA, .ref eA, .ref gA, .ref cA, .ref rA, .ref fA])), (eA, .inl (cJJ, 8, .inr (.inr (.inr (.inr (fun k => some (eR k))))))), (gA, .inl (cGG, 8, .inr (.inr (.inr (.inr (fun k => some (gR k))))))), (cA, .inl (cI, 8, .inl (upd cR zi (iI (((en : Int)) + 1))))), (eR zi, .inl (cJ, 660, .inr (.inl (fun j => lL (evPut eF k en t j))))), (gR zi, .inl (cG, 660, .inl (fun j => iI (bI (evPut gF k en bg j)))))] H := hP
              have hD : va_D (wA [(mm, .inr (4, [.int (iI fa), .ref tA, .int (iI ((nn : Int))), .int (iI pl), .int (iI yr), .int (iI mn), .int (iI dy), .int (iI ((i : Int))), .ref oA, .ref sA, .ref eA, .ref gA, .ref cA, .ref rA, .ref fA])), (eA, .inl (cJJ, 8, .inr (.inr (.inr (.inr (fun k => some (eR k))))))), (gA, .inl (cGG, 8, .inr (.inr (.inr (.inr (fun k => some (gR k))))))), (cA, .inl (cI, 8, .inl cR)), (eR zi, .inl (cJ, 660, .inr (.inl (fun j => lL (eF j))))), (gR zi, .inl (cG, 660, .inl (fun j => iI (bI (gF j)))))]) [(mm, .inr (4, [.int (iI fa), .ref tA, .int (iI ((nn : Int))), .int (iI pl), .int (iI yr), .int (iI mn), .int (iI dy), .int (iI ((i : Int))), .ref oA, .ref sA, .ref eA, .ref gA, .ref cA, .ref rA, .ref fA])), (eA, .inl (cJJ, 8, .inr (.inr (.inr (.inr (fun k => some (eR k))))))), (gA, .inl (cGG, 8, .inr (.inr (.inr (.inr (fun k => some (gR k))))))), (cA, .inl (cI, 8, .inl (upd cR zi (iI (((en : Int)) + 1))))), (eR zi, .inl (cJ, 660, .inr (.inl (fun j => lL (evPut eF k en t j))))), (gR zi, .inl (cG, 660, .inl (fun j => iI (bI (evPut gF k en bg j)))))] := hD
              exact m_vret hx hb hr hlk hP hS d_Ref_event_141 (by rw [hv, hst])
            · refine lv_aload_n hx hb d_Ref_event_64 rfl (lv_at hl 1 rfl) ?_
              refine g_get hx hb hk hown hK hP 0 rfl f_Ref_26 rfl d_Ref_event_65 ?_
              refine lv_iload_n hx hb d_Ref_event_68 rfl (lv_at hl 2 rfl) ?_
              refine g_aald (i := zi) hx hb hK hP 1 5 rfl hJJ rfl (rfl) d_Ref_event_69 ?_
              refine lv_iload hx hb d_Ref_event_70 (lv_at hl 0 rfl) ?_
              refine lv_aload_n hx hb d_Ref_event_72 rfl (lv_at hl 1 rfl) ?_
              refine g_get hx hb hk hown hK hP 0 rfl f_Ref_26 rfl d_Ref_event_73 ?_
              refine lv_iload_n hx hb d_Ref_event_76 rfl (lv_at hl 2 rfl) ?_
              refine g_aald (i := zi) hx hb hK hP 1 5 rfl hJJ rfl (rfl) d_Ref_event_77 ?_
              refine lv_iload hx hb d_Ref_event_78 (lv_at hl 0 rfl) ?_
              refine lv_iconst (v := iI 1) hx hb d_Ref_event_80 rfl ?_
              refine ri_isub hx hb d_Ref_event_81 ?_
              refine ri_i (show ((k : Int)) - 1 = ((k - 1 : Nat) : Int) from by omega) ?_
              refine g_lald (i := k - 1) hx hb hK hP 4 2 rfl hJ d_Ref_event_82 ?_ (by omega) (by decide)
              refine g_last (i := k) hx hb hK hP hD hS 4 2 rfl hJ d_Ref_event_83 (fun H locs hP hD hS => ?_) (by omega) (by decide)
              have hP : va_P D vwCl [(mm, .inr (4, [.int (iI fa), .ref tA, .int (iI ((nn : Int))), .int (iI pl), .int (iI yr), .int (iI mn), .int (iI dy), .int (iI ((i : Int))), .ref oA, .ref sA, .ref eA, .ref gA, .ref cA, .ref rA, .ref fA])), (eA, .inl (cJJ, 8, .inr (.inr (.inr (.inr (fun k => some (eR k))))))), (gA, .inl (cGG, 8, .inr (.inr (.inr (.inr (fun k => some (gR k))))))), (cA, .inl (cI, 8, .inl cR)), (eR zi, .inl (cJ, 660, .inr (.inl (vp_updL (fun j => lL (evSh eF en k j)) k (lL (evSh eF en k (k - 1))))))), (gR zi, .inl (cG, 660, .inl (fun j => iI (bI (evSh gF en k j)))))] H := hP
              have hD : va_D (wA [(mm, .inr (4, [.int (iI fa), .ref tA, .int (iI ((nn : Int))), .int (iI pl), .int (iI yr), .int (iI mn), .int (iI dy), .int (iI ((i : Int))), .ref oA, .ref sA, .ref eA, .ref gA, .ref cA, .ref rA, .ref fA])), (eA, .inl (cJJ, 8, .inr (.inr (.inr (.inr (fun k => some (eR k))))))), (gA, .inl (cGG, 8, .inr (.inr (.inr (.inr (fun k => some (gR k))))))), (cA, .inl (cI, 8, .inl cR)), (eR zi, .inl (cJ, 660, .inr (.inl (fun j => lL (eF j))))), (gR zi, .inl (cG, 660, .inl (fun j => iI (bI (gF j)))))]) [(mm, .inr (4, [.int (iI fa), .ref tA, .int (iI ((nn : Int))), .int (iI pl), .int (iI yr), .int (iI mn), .int (iI dy), .int (iI ((i : Int))), .ref oA, .ref sA, .ref eA, .ref gA, .ref cA, .ref rA, .ref fA])), (eA, .inl (cJJ, 8, .inr (.inr (.inr (.inr (fun k => some (eR k))))))), (gA, .inl (cGG, 8, .inr (.inr (.inr (.inr (fun k => some (gR k))))))), (cA, .inl (cI, 8, .inl cR)), (eR zi, .inl (cJ, 660, .inr (.inl (vp_updL (fun j => lL (evSh eF en k j)) k (lL (evSh eF en k (k - 1))))))), (gR zi, .inl (cG, 660, .inl (fun j => iI (bI (evSh gF en k j)))))] := hD
              rw [evSh_upL (F := eF) (n := en) (k := k) (by omega) hke] at hP hD
              refine lv_aload_n hx hb d_Ref_event_84 rfl (lv_at hl 1 rfl) ?_
              refine g_get hx hb hk hown hK hP 0 rfl f_Ref_31 rfl d_Ref_event_85 ?_
              refine lv_iload_n hx hb d_Ref_event_88 rfl (lv_at hl 2 rfl) ?_
              refine g_aald (i := zi) hx hb hK hP 2 6 rfl hGG rfl (rfl) d_Ref_event_89 ?_
              refine lv_iload hx hb d_Ref_event_90 (lv_at hl 0 rfl) ?_
              refine lv_aload_n hx hb d_Ref_event_92 rfl (lv_at hl 1 rfl) ?_
              refine g_get hx hb hk hown hK hP 0 rfl f_Ref_31 rfl d_Ref_event_93 ?_
              refine lv_iload_n hx hb d_Ref_event_96 rfl (lv_at hl 2 rfl) ?_
              refine g_aald (i := zi) hx hb hK hP 2 6 rfl hGG rfl (rfl) d_Ref_event_97 ?_
              refine lv_iload hx hb d_Ref_event_98 (lv_at hl 0 rfl) ?_
              refine lv_iconst (v := iI 1) hx hb d_Ref_event_100 rfl ?_
              refine ri_isub hx hb d_Ref_event_101 ?_
              refine ri_i (show ((k : Int)) - 1 = ((k - 1 : Nat) : Int) from by omega) ?_
              refine g_zald (i := k - 1) hx hb hK hP 5 3 rfl hG d_Ref_event_102 ?_ (by omega) (by decide)
              refine g_zast (i := k) hx hb hK hP hD hS 5 3 rfl hG d_Ref_event_103 (fun H locs hP hD hS => ?_) (bI_vnar _) (by omega) (by decide)
              have hP : va_P D vwCl [(mm, .inr (4, [.int (iI fa), .ref tA, .int (iI ((nn : Int))), .int (iI pl), .int (iI yr), .int (iI mn), .int (iI dy), .int (iI ((i : Int))), .ref oA, .ref sA, .ref eA, .ref gA, .ref cA, .ref rA, .ref fA])), (eA, .inl (cJJ, 8, .inr (.inr (.inr (.inr (fun k => some (eR k))))))), (gA, .inl (cGG, 8, .inr (.inr (.inr (.inr (fun k => some (gR k))))))), (cA, .inl (cI, 8, .inl cR)), (eR zi, .inl (cJ, 660, .inr (.inl (fun j => lL (evSh eF en (k - 1) j))))), (gR zi, .inl (cG, 660, .inl (upd (fun j => iI (bI (evSh gF en k j))) k (iI (bI (evSh gF en k (k - 1)))))))] H := hP
              have hD : va_D (wA [(mm, .inr (4, [.int (iI fa), .ref tA, .int (iI ((nn : Int))), .int (iI pl), .int (iI yr), .int (iI mn), .int (iI dy), .int (iI ((i : Int))), .ref oA, .ref sA, .ref eA, .ref gA, .ref cA, .ref rA, .ref fA])), (eA, .inl (cJJ, 8, .inr (.inr (.inr (.inr (fun k => some (eR k))))))), (gA, .inl (cGG, 8, .inr (.inr (.inr (.inr (fun k => some (gR k))))))), (cA, .inl (cI, 8, .inl cR)), (eR zi, .inl (cJ, 660, .inr (.inl (fun j => lL (eF j))))), (gR zi, .inl (cG, 660, .inl (fun j => iI (bI (gF j)))))]) [(mm, .inr (4, [.int (iI fa), .ref tA, .int (iI ((nn : Int))), .int (iI pl), .int (iI yr), .int (iI mn), .int (iI dy), .int (iI ((i : Int))), .ref oA, .ref sA, .ref eA, .ref gA, .ref cA, .ref rA, .ref fA])), (eA, .inl (cJJ, 8, .inr (.inr (.inr (.inr (fun k => some (eR k))))))), (gA, .inl (cGG, 8, .inr (.inr (.inr (.inr (fun k => some (gR k))))))), (cA, .inl (cI, 8, .inl cR)), (eR zi, .inl (cJ, 660, .inr (.inl (fun j => lL (evSh eF en (k - 1) j))))), (gR zi, .inl (cG, 660, .inl (upd (fun j => iI (bI (evSh gF en k j))) k (iI (bI (evSh gF en k (k - 1)))))))] := hD
              rw [evSh_upG (F := gF) (n := en) (k := k) (by omega) hke] at hP hD
              refine lv_iinc (k := 0) (v := iI ((k : Int) - 1)) (lv' := [(5, .int (iI ((k : Int) - 1))), (0, .ref mm), (1, .int (iI ((zi : Int)))), (2, .long (lL t)), (4, .int (iI (bI bg)))]) hx hb d_Ref_event_104 hl rfl ((iI_add _ _).trans (congrArg iI (by omega))) (by decide) rfl (fun ls hl => ?_)
              refine lv_goto (tgt := 8) hx hb d_Ref_event_107 (by decide) ?_
              have hl : lv_has ls 6 [(5, .int (iI (((k - 1 : Nat) : Int)))), (0, .ref mm), (1, .int (iI ((zi : Int)))), (2, .long (lL t)), (4, .int (iI (bI bg)))] := by rw [show ((k - 1 : Nat) : Int) = (k : Int) - 1 from by omega]; exact hl
              have hc : eF (k - 1) > t ∨ (eF (k - 1) = t ∧ bg = true ∧ gF (k - 1) = false) := by
                have q1 := evSh_at (F := eF) (n := en) (k := k) (j := k - 1) (by omega)
                first
                | exact Or.inl (by omega)
                | exact Or.inr ⟨by omega, bI_e1 h47, by rw [← evSh_at (F := gF) (n := en) (k := k) (j := k - 1) (by omega)]; exact bI_e0 h61⟩
              exact ih _ (by omega) (k - 1) ls _ _ (by omega) (hv.trans (evPos_go (by omega) hc)) rfl hP hD hS (lv_sub hl [0, 1, 2, 3, 4] rfl)
  exact loop8 _ en ls _ _ (by omega) rfl rfl hP hD hS (lv_sub hl [0, 1, 2, 3, 4] rfl)
abbrev rm_Ref_rule : Room := { frames := 2, cells := 0, slots := 0, locals := 45 }
set_option maxHeartbeats 4000000 in
set_option maxRecDepth 100000 in
theorem ct_Ref_rule (l : Launch) (D : va_G) (tys : List (ClassId × FieldType)) (mm : Nat) (tA : Nat) (oA : Nat) (sA : Nat) (eA : Nat) (gA : Nat) (cA : Nat) (rA : Nat) (fA : Nat) (fa : Int) (nn : Nat) (pl : Int) (yr : Int) (mn : Int) (dy : Int) (i : Nat) (cB : ClassId) (f : Nat → Int32) (cI : ClassId) (rr : Nat → Int32) (b : Nat) (hty : tys[0]? = some (cB, .byte)) (hI : tys[1]? = some (cI, .int)) (gn : nn ≤ 400) (gi : i ≤ nn) (gb : b ≤ 4) (gq : (zRu nn f (i, false)).2.2 = false) : mMet l y_Ref_rule c_Ref_rule 2 none rm_Ref_rule D tys [.ref mm, .int (iI ((b : Int)))] [(mm, .inr (4, [.int (iI fa), .ref tA, .int (iI ((nn : Int))), .int (iI pl), .int (iI yr), .int (iI mn), .int (iI dy), .int (iI ((i : Int))), .ref oA, .ref sA, .ref eA, .ref gA, .ref cA, .ref rA, .ref fA])), (tA, .inl (cB, 400, .inl f)), (rA, .inl (cI, 8, .inl rr))] none [(mm, .inr (4, [.int (iI fa), .ref tA, .int (iI ((nn : Int))), .int (iI pl), .int (iI yr), .int (iI mn), .int (iI dy), .int (iI ((((zRu nn f (i, false)).2.1 : Nat) : Int))), .ref oA, .ref sA, .ref eA, .ref gA, .ref cA, .ref rA, .ref fA])), (tA, .inl (cB, 400, .inl f)), (rA, .inl (cI, 8, .inl (upd (upd (upd (upd rr b (iI (zRu nn f (i, false)).1.1)) (b + 1) (iI (zRu nn f (i, false)).1.2.1)) (b + 2) (iI (zRu nn f (i, false)).1.2.2.1)) (b + 3) (iI (zRu nn f (i, false)).1.2.2.2))))] := by
  refine mMet_of (by decide) (Nat.le_of_ble_eq_true rfl) ?_
  intro p e s m below meth c hx hb hr hown hlk hml hk hK hP hD hS ls hl
  have hl : lv_has ls 2 [(0, .ref mm), (1, .int (iI ((b : Int))))] := hl
  have hT := zRu_T (n := nn) (f := f) (z := (i, false))
  refine lv_aload_n hx hb d_Ref_rule_0 rfl (lv_at hl 0 rfl) ?_
  refine lv_bipush (v := iI 77) hx hb d_Ref_rule_1 (by decide) ?_
  by_cases a1 : zPk nn f (i) = 77
  · skip
    have gi1 : i < nn := zPk_lt (f := f) (by omega)
    have hT := hT.trans (rT1_y a1)
    refine m_callV (rest := []) (q0 := 0) hx hb (hml.trans hl.1.symm) hown hk hK k_Ref_99 (ct_Ref_expect l D tys mm tA oA sA eA gA cA rA fA fa nn pl yr mn dy i cB f 77 hty (by omega) (by omega) (by omega) (by omega) (by omega)) hP hD hS [0, 1] rfl rfl rfl rfl rfl rfl rfl ⟨rfl, rfl⟩ ⟨by decide, by decide, by decide, by decide⟩ (Nat.le_of_ble_eq_true rfl) d_Ref_rule_3 (fun H locs hP hD hS => ?_)
    have hP : va_P D vwCl [(mm, .inr (4, [.int (iI fa), .ref tA, .int (iI ((nn : Int))), .int (iI pl), .int (iI yr), .int (iI mn), .int (iI dy), .int (iI (((i + 1 : Nat) : Int))), .ref oA, .ref sA, .ref eA, .ref gA, .ref cA, .ref rA, .ref fA])), (tA, .inl (cB, 400, .inl f)), (rA, .inl (cI, 8, .inl rr))] H := hP
    have hD : va_D (wA [(mm, .inr (4, [.int (iI fa), .ref tA, .int (iI ((nn : Int))), .int (iI pl), .int (iI yr), .int (iI mn), .int (iI dy), .int (iI ((i : Int))), .ref oA, .ref sA, .ref eA, .ref gA, .ref cA, .ref rA, .ref fA])), (tA, .inl (cB, 400, .inl f)), (rA, .inl (cI, 8, .inl rr))]) [(mm, .inr (4, [.int (iI fa), .ref tA, .int (iI ((nn : Int))), .int (iI pl), .int (iI yr), .int (iI mn), .int (iI dy), .int (iI (((i + 1 : Nat) : Int))), .ref oA, .ref sA, .ref eA, .ref gA, .ref cA, .ref rA, .ref fA])), (tA, .inl (cB, 400, .inl f)), (rA, .inl (cI, 8, .inl rr))] := hD
    refine lv_aload_n hx hb d_Ref_rule_6 rfl (lv_at hl 0 rfl) ?_
    refine g_get hx hb hk hown hK hP 0 rfl f_Ref_37 rfl d_Ref_rule_7 ?_
    refine lv_iload_n hx hb d_Ref_rule_10 rfl (lv_at hl 1 rfl) ?_
    refine lv_aload_n hx hb d_Ref_rule_11 rfl (lv_at hl 0 rfl) ?_
    refine lv_iconst (v := iI 1) hx hb d_Ref_rule_12 rfl ?_
    refine lv_bipush (v := iI 12) hx hb d_Ref_rule_13 (by decide) ?_
    have gD2 := zDg_b (n := nn) (f := f) (i := i + 1) (by omega)
    by_cases b2 : ((zDg nn f (i + 1)).1 < 1 ∨ 12 < (zDg nn f (i + 1)).1)
    · skip
      have hT := hT.trans (rT2_n b2)
      exact absurd (show true = false from (congrArg Prod.snd hT).symm.trans gq) (by decide)
    · skip
      have hT := hT.trans (rT2_y b2)
      refine m_callV (rest := [.int (iI ((b : Int))), .ref rA]) (q0 := 0) hx hb (hml.trans hl.1.symm) hown hk hK k_Ref_102 (ct_Ref_ranged l D tys mm tA oA sA eA gA cA rA fA fa nn pl yr mn dy (i + 1) cB f 1 12 hty (by omega) (by omega) (by omega) (by omega) (by omega) (by omega) (by omega)) hP hD hS [0, 1] rfl rfl rfl rfl rfl rfl rfl ⟨rfl, rfl⟩ ⟨by decide, by decide, by decide, by decide⟩ (Nat.le_of_ble_eq_true rfl) d_Ref_rule_15 (fun H locs hP hD hS => ?_)
      have hP : va_P D vwCl [(mm, .inr (4, [.int (iI fa), .ref tA, .int (iI ((nn : Int))), .int (iI pl), .int (iI yr), .int (iI mn), .int (iI dy), .int (iI ((((zDg nn f (i + 1)).2 : Nat) : Int))), .ref oA, .ref sA, .ref eA, .ref gA, .ref cA, .ref rA, .ref fA])), (tA, .inl (cB, 400, .inl f)), (rA, .inl (cI, 8, .inl rr))] H := hP
      have hD : va_D (wA [(mm, .inr (4, [.int (iI fa), .ref tA, .int (iI ((nn : Int))), .int (iI pl), .int (iI yr), .int (iI mn), .int (iI dy), .int (iI ((i : Int))), .ref oA, .ref sA, .ref eA, .ref gA, .ref cA, .ref rA, .ref fA])), (tA, .inl (cB, 400, .inl f)), (rA, .inl (cI, 8, .inl rr))]) [(mm, .inr (4, [.int (iI fa), .ref tA, .int (iI ((nn : Int))), .int (iI pl), .int (iI yr), .int (iI mn), .int (iI dy), .int (iI ((((zDg nn f (i + 1)).2 : Nat) : Int))), .ref oA, .ref sA, .ref eA, .ref gA, .ref cA, .ref rA, .ref fA])), (tA, .inl (cB, 400, .inl f)), (rA, .inl (cI, 8, .inl rr))] := hD
      refine g_iast (i := b) hx hb hK hP hD hS 2 1 rfl hI d_Ref_rule_18 (fun H locs hP hD hS => ?_) (by omega) (by decide)
      have hP : va_P D vwCl [(mm, .inr (4, [.int (iI fa), .ref tA, .int (iI ((nn : Int))), .int (iI pl), .int (iI yr), .int (iI mn), .int (iI dy), .int (iI ((((zDg nn f (i + 1)).2 : Nat) : Int))), .ref oA, .ref sA, .ref eA, .ref gA, .ref cA, .ref rA, .ref fA])), (tA, .inl (cB, 400, .inl f)), (rA, .inl (cI, 8, .inl (upd rr b (iI ((zDg nn f (i + 1)).1)))))] H := hP
      have hD : va_D (wA [(mm, .inr (4, [.int (iI fa), .ref tA, .int (iI ((nn : Int))), .int (iI pl), .int (iI yr), .int (iI mn), .int (iI dy), .int (iI ((i : Int))), .ref oA, .ref sA, .ref eA, .ref gA, .ref cA, .ref rA, .ref fA])), (tA, .inl (cB, 400, .inl f)), (rA, .inl (cI, 8, .inl rr))]) [(mm, .inr (4, [.int (iI fa), .ref tA, .int (iI ((nn : Int))), .int (iI pl), .int (iI yr), .int (iI mn), .int (iI dy), .int (iI ((((zDg nn f (i + 1)).2 : Nat) : Int))), .ref oA, .ref sA, .ref eA, .ref gA, .ref cA, .ref rA, .ref fA])), (tA, .inl (cB, 400, .inl f)), (rA, .inl (cI, 8, .inl (upd rr b (iI ((zDg nn f (i + 1)).1)))))] := hD
      refine lv_aload_n hx hb d_Ref_rule_19 rfl (lv_at hl 0 rfl) ?_
      refine lv_bipush (v := iI 46) hx hb d_Ref_rule_20 (by decide) ?_
      by_cases a3 : zPk nn f ((zDg nn f (i + 1)).2) = 46
      · skip
        have gi3 : (zDg nn f (i + 1)).2 < nn := zPk_lt (f := f) (by omega)
        have hT := hT.trans (rT3_y a3)
        refine m_callV (rest := []) (q0 := 0) hx hb (hml.trans hl.1.symm) hown hk hK k_Ref_99 (ct_Ref_expect l D tys mm tA oA sA eA gA cA rA fA fa nn pl yr mn dy ((zDg nn f (i + 1)).2) cB f 46 hty (by omega) (by omega) (by omega) (by omega) (by omega)) hP hD hS [0, 1] rfl rfl rfl rfl rfl rfl rfl ⟨rfl, rfl⟩ ⟨by decide, by decide, by decide, by decide⟩ (Nat.le_of_ble_eq_true rfl) d_Ref_rule_22 (fun H locs hP hD hS => ?_)
        have hP : va_P D vwCl [(mm, .inr (4, [.int (iI fa), .ref tA, .int (iI ((nn : Int))), .int (iI pl), .int (iI yr), .int (iI mn), .int (iI dy), .int (iI (((((zDg nn f (i + 1)).2) + 1 : Nat) : Int))), .ref oA, .ref sA, .ref eA, .ref gA, .ref cA, .ref rA, .ref fA])), (tA, .inl (cB, 400, .inl f)), (rA, .inl (cI, 8, .inl (upd rr b (iI ((zDg nn f (i + 1)).1)))))] H := hP
        have hD : va_D (wA [(mm, .inr (4, [.int (iI fa), .ref tA, .int (iI ((nn : Int))), .int (iI pl), .int (iI yr), .int (iI mn), .int (iI dy), .int (iI ((i : Int))), .ref oA, .ref sA, .ref eA, .ref gA, .ref cA, .ref rA, .ref fA])), (tA, .inl (cB, 400, .inl f)), (rA, .inl (cI, 8, .inl rr))]) [(mm, .inr (4, [.int (iI fa), .ref tA, .int (iI ((nn : Int))), .int (iI pl), .int (iI yr), .int (iI mn), .int (iI dy), .int (iI (((((zDg nn f (i + 1)).2) + 1 : Nat) : Int))), .ref oA, .ref sA, .ref eA, .ref gA, .ref cA, .ref rA, .ref fA])), (tA, .inl (cB, 400, .inl f)), (rA, .inl (cI, 8, .inl (upd rr b (iI ((zDg nn f (i + 1)).1)))))] := hD
        refine lv_aload_n hx hb d_Ref_rule_25 rfl (lv_at hl 0 rfl) ?_
        refine g_get hx hb hk hown hK hP 0 rfl f_Ref_37 rfl d_Ref_rule_26 ?_
        refine lv_iload_n hx hb d_Ref_rule_29 rfl (lv_at hl 1 rfl) ?_
        refine lv_iconst (v := iI 1) hx hb d_Ref_rule_30 rfl ?_
        refine ri_iadd hx hb d_Ref_rule_31 ?_
        refine ri_i (show ((b : Int)) + 1 = ((b + 1 : Nat) : Int) from by omega) ?_
        refine lv_aload_n hx hb d_Ref_rule_32 rfl (lv_at hl 0 rfl) ?_
        refine lv_iconst (v := iI 1) hx hb d_Ref_rule_33 rfl ?_
        refine lv_iconst (v := iI 5) hx hb d_Ref_rule_34 rfl ?_
        have gD4 := zDg_b (n := nn) (f := f) (i := ((zDg nn f (i + 1)).2) + 1) (by omega)
        by_cases b4 : ((zDg nn f (((zDg nn f (i + 1)).2) + 1)).1 < 1 ∨ 5 < (zDg nn f (((zDg nn f (i + 1)).2) + 1)).1)
        · skip
          have hT := hT.trans (rT4_n b4)
          exact absurd (show true = false from (congrArg Prod.snd hT).symm.trans gq) (by decide)
        · skip
          have hT := hT.trans (rT4_y b4)
          refine m_callV (rest := [.int (iI (((b + 1 : Nat) : Int))), .ref rA]) (q0 := 0) hx hb (hml.trans hl.1.symm) hown hk hK k_Ref_102 (ct_Ref_ranged l D tys mm tA oA sA eA gA cA rA fA fa nn pl yr mn dy (((zDg nn f (i + 1)).2) + 1) cB f 1 5 hty (by omega) (by omega) (by omega) (by omega) (by omega) (by omega) (by omega)) hP hD hS [0, 1] rfl rfl rfl rfl rfl rfl rfl ⟨rfl, rfl⟩ ⟨by decide, by decide, by decide, by decide⟩ (Nat.le_of_ble_eq_true rfl) d_Ref_rule_35 (fun H locs hP hD hS => ?_)
          have hP : va_P D vwCl [(mm, .inr (4, [.int (iI fa), .ref tA, .int (iI ((nn : Int))), .int (iI pl), .int (iI yr), .int (iI mn), .int (iI dy), .int (iI ((((zDg nn f (((zDg nn f (i + 1)).2) + 1)).2 : Nat) : Int))), .ref oA, .ref sA, .ref eA, .ref gA, .ref cA, .ref rA, .ref fA])), (tA, .inl (cB, 400, .inl f)), (rA, .inl (cI, 8, .inl (upd rr b (iI ((zDg nn f (i + 1)).1)))))] H := hP
          have hD : va_D (wA [(mm, .inr (4, [.int (iI fa), .ref tA, .int (iI ((nn : Int))), .int (iI pl), .int (iI yr), .int (iI mn), .int (iI dy), .int (iI ((i : Int))), .ref oA, .ref sA, .ref eA, .ref gA, .ref cA, .ref rA, .ref fA])), (tA, .inl (cB, 400, .inl f)), (rA, .inl (cI, 8, .inl rr))]) [(mm, .inr (4, [.int (iI fa), .ref tA, .int (iI ((nn : Int))), .int (iI pl), .int (iI yr), .int (iI mn), .int (iI dy), .int (iI ((((zDg nn f (((zDg nn f (i + 1)).2) + 1)).2 : Nat) : Int))), .ref oA, .ref sA, .ref eA, .ref gA, .ref cA, .ref rA, .ref fA])), (tA, .inl (cB, 400, .inl f)), (rA, .inl (cI, 8, .inl (upd rr b (iI ((zDg nn f (i + 1)).1)))))] := hD
          refine g_iast (i := b + 1) hx hb hK hP hD hS 2 1 rfl hI d_Ref_rule_38 (fun H locs hP hD hS => ?_) (by omega) (by decide)
          have hP : va_P D vwCl [(mm, .inr (4, [.int (iI fa), .ref tA, .int (iI ((nn : Int))), .int (iI pl), .int (iI yr), .int (iI mn), .int (iI dy), .int (iI ((((zDg nn f (((zDg nn f (i + 1)).2) + 1)).2 : Nat) : Int))), .ref oA, .ref sA, .ref eA, .ref gA, .ref cA, .ref rA, .ref fA])), (tA, .inl (cB, 400, .inl f)), (rA, .inl (cI, 8, .inl (upd (upd rr b (iI ((zDg nn f (i + 1)).1))) (b + 1) (iI ((zDg nn f (((zDg nn f (i + 1)).2) + 1)).1)))))] H := hP
          have hD : va_D (wA [(mm, .inr (4, [.int (iI fa), .ref tA, .int (iI ((nn : Int))), .int (iI pl), .int (iI yr), .int (iI mn), .int (iI dy), .int (iI ((i : Int))), .ref oA, .ref sA, .ref eA, .ref gA, .ref cA, .ref rA, .ref fA])), (tA, .inl (cB, 400, .inl f)), (rA, .inl (cI, 8, .inl rr))]) [(mm, .inr (4, [.int (iI fa), .ref tA, .int (iI ((nn : Int))), .int (iI pl), .int (iI yr), .int (iI mn), .int (iI dy), .int (iI ((((zDg nn f (((zDg nn f (i + 1)).2) + 1)).2 : Nat) : Int))), .ref oA, .ref sA, .ref eA, .ref gA, .ref cA, .ref rA, .ref fA])), (tA, .inl (cB, 400, .inl f)), (rA, .inl (cI, 8, .inl (upd (upd rr b (iI ((zDg nn f (i + 1)).1))) (b + 1) (iI ((zDg nn f (((zDg nn f (i + 1)).2) + 1)).1)))))] := hD
          refine lv_aload_n hx hb d_Ref_rule_39 rfl (lv_at hl 0 rfl) ?_
          refine lv_bipush (v := iI 46) hx hb d_Ref_rule_40 (by decide) ?_
          by_cases a5 : zPk nn f ((zDg nn f (((zDg nn f (i + 1)).2) + 1)).2) = 46
          · skip
            have gi5 : (zDg nn f (((zDg nn f (i + 1)).2) + 1)).2 < nn := zPk_lt (f := f) (by omega)
            have hT := hT.trans (rT5_y a5)
            refine m_callV (rest := []) (q0 := 0) hx hb (hml.trans hl.1.symm) hown hk hK k_Ref_99 (ct_Ref_expect l D tys mm tA oA sA eA gA cA rA fA fa nn pl yr mn dy ((zDg nn f (((zDg nn f (i + 1)).2) + 1)).2) cB f 46 hty (by omega) (by omega) (by omega) (by omega) (by omega)) hP hD hS [0, 1] rfl rfl rfl rfl rfl rfl rfl ⟨rfl, rfl⟩ ⟨by decide, by decide, by decide, by decide⟩ (Nat.le_of_ble_eq_true rfl) d_Ref_rule_42 (fun H locs hP hD hS => ?_)
            have hP : va_P D vwCl [(mm, .inr (4, [.int (iI fa), .ref tA, .int (iI ((nn : Int))), .int (iI pl), .int (iI yr), .int (iI mn), .int (iI dy), .int (iI (((((zDg nn f (((zDg nn f (i + 1)).2) + 1)).2) + 1 : Nat) : Int))), .ref oA, .ref sA, .ref eA, .ref gA, .ref cA, .ref rA, .ref fA])), (tA, .inl (cB, 400, .inl f)), (rA, .inl (cI, 8, .inl (upd (upd rr b (iI ((zDg nn f (i + 1)).1))) (b + 1) (iI ((zDg nn f (((zDg nn f (i + 1)).2) + 1)).1)))))] H := hP
            have hD : va_D (wA [(mm, .inr (4, [.int (iI fa), .ref tA, .int (iI ((nn : Int))), .int (iI pl), .int (iI yr), .int (iI mn), .int (iI dy), .int (iI ((i : Int))), .ref oA, .ref sA, .ref eA, .ref gA, .ref cA, .ref rA, .ref fA])), (tA, .inl (cB, 400, .inl f)), (rA, .inl (cI, 8, .inl rr))]) [(mm, .inr (4, [.int (iI fa), .ref tA, .int (iI ((nn : Int))), .int (iI pl), .int (iI yr), .int (iI mn), .int (iI dy), .int (iI (((((zDg nn f (((zDg nn f (i + 1)).2) + 1)).2) + 1 : Nat) : Int))), .ref oA, .ref sA, .ref eA, .ref gA, .ref cA, .ref rA, .ref fA])), (tA, .inl (cB, 400, .inl f)), (rA, .inl (cI, 8, .inl (upd (upd rr b (iI ((zDg nn f (i + 1)).1))) (b + 1) (iI ((zDg nn f (((zDg nn f (i + 1)).2) + 1)).1)))))] := hD
            refine lv_aload_n hx hb d_Ref_rule_45 rfl (lv_at hl 0 rfl) ?_
            refine g_get hx hb hk hown hK hP 0 rfl f_Ref_37 rfl d_Ref_rule_46 ?_
            refine lv_iload_n hx hb d_Ref_rule_49 rfl (lv_at hl 1 rfl) ?_
            refine lv_iconst (v := iI 2) hx hb d_Ref_rule_50 rfl ?_
            refine ri_iadd hx hb d_Ref_rule_51 ?_
            refine ri_i (show ((b : Int)) + 2 = ((b + 2 : Nat) : Int) from by omega) ?_
            refine lv_aload_n hx hb d_Ref_rule_52 rfl (lv_at hl 0 rfl) ?_
            refine lv_iconst (v := iI 0) hx hb d_Ref_rule_53 rfl ?_
            refine lv_bipush (v := iI 6) hx hb d_Ref_rule_54 (by decide) ?_
            have gD6 := zDg_b (n := nn) (f := f) (i := ((zDg nn f (((zDg nn f (i + 1)).2) + 1)).2) + 1) (by omega)
            by_cases b6 : ((zDg nn f (((zDg nn f (((zDg nn f (i + 1)).2) + 1)).2) + 1)).1 < 0 ∨ 6 < (zDg nn f (((zDg nn f (((zDg nn f (i + 1)).2) + 1)).2) + 1)).1)
            · skip
              have hT := hT.trans (rT6_n b6)
              exact absurd (show true = false from (congrArg Prod.snd hT).symm.trans gq) (by decide)
            · skip
              have hT := hT.trans (rT6_y b6)
              refine m_callV (rest := [.int (iI (((b + 2 : Nat) : Int))), .ref rA]) (q0 := 0) hx hb (hml.trans hl.1.symm) hown hk hK k_Ref_102 (ct_Ref_ranged l D tys mm tA oA sA eA gA cA rA fA fa nn pl yr mn dy (((zDg nn f (((zDg nn f (i + 1)).2) + 1)).2) + 1) cB f 0 6 hty (by omega) (by omega) (by omega) (by omega) (by omega) (by omega) (by omega)) hP hD hS [0, 1] rfl rfl rfl rfl rfl rfl rfl ⟨rfl, rfl⟩ ⟨by decide, by decide, by decide, by decide⟩ (Nat.le_of_ble_eq_true rfl) d_Ref_rule_56 (fun H locs hP hD hS => ?_)
              have hP : va_P D vwCl [(mm, .inr (4, [.int (iI fa), .ref tA, .int (iI ((nn : Int))), .int (iI pl), .int (iI yr), .int (iI mn), .int (iI dy), .int (iI ((((zDg nn f (((zDg nn f (((zDg nn f (i + 1)).2) + 1)).2) + 1)).2 : Nat) : Int))), .ref oA, .ref sA, .ref eA, .ref gA, .ref cA, .ref rA, .ref fA])), (tA, .inl (cB, 400, .inl f)), (rA, .inl (cI, 8, .inl (upd (upd rr b (iI ((zDg nn f (i + 1)).1))) (b + 1) (iI ((zDg nn f (((zDg nn f (i + 1)).2) + 1)).1)))))] H := hP
              have hD : va_D (wA [(mm, .inr (4, [.int (iI fa), .ref tA, .int (iI ((nn : Int))), .int (iI pl), .int (iI yr), .int (iI mn), .int (iI dy), .int (iI ((i : Int))), .ref oA, .ref sA, .ref eA, .ref gA, .ref cA, .ref rA, .ref fA])), (tA, .inl (cB, 400, .inl f)), (rA, .inl (cI, 8, .inl rr))]) [(mm, .inr (4, [.int (iI fa), .ref tA, .int (iI ((nn : Int))), .int (iI pl), .int (iI yr), .int (iI mn), .int (iI dy), .int (iI ((((zDg nn f (((zDg nn f (((zDg nn f (i + 1)).2) + 1)).2) + 1)).2 : Nat) : Int))), .ref oA, .ref sA, .ref eA, .ref gA, .ref cA, .ref rA, .ref fA])), (tA, .inl (cB, 400, .inl f)), (rA, .inl (cI, 8, .inl (upd (upd rr b (iI ((zDg nn f (i + 1)).1))) (b + 1) (iI ((zDg nn f (((zDg nn f (i + 1)).2) + 1)).1)))))] := hD
              refine g_iast (i := b + 2) hx hb hK hP hD hS 2 1 rfl hI d_Ref_rule_59 (fun H locs hP hD hS => ?_) (by omega) (by decide)
              have hP : va_P D vwCl [(mm, .inr (4, [.int (iI fa), .ref tA, .int (iI ((nn : Int))), .int (iI pl), .int (iI yr), .int (iI mn), .int (iI dy), .int (iI ((((zDg nn f (((zDg nn f (((zDg nn f (i + 1)).2) + 1)).2) + 1)).2 : Nat) : Int))), .ref oA, .ref sA, .ref eA, .ref gA, .ref cA, .ref rA, .ref fA])), (tA, .inl (cB, 400, .inl f)), (rA, .inl (cI, 8, .inl (upd (upd (upd rr b (iI ((zDg nn f (i + 1)).1))) (b + 1) (iI ((zDg nn f (((zDg nn f (i + 1)).2) + 1)).1))) (b + 2) (iI ((zDg nn f (((zDg nn f (((zDg nn f (i + 1)).2) + 1)).2) + 1)).1)))))] H := hP
              have hD : va_D (wA [(mm, .inr (4, [.int (iI fa), .ref tA, .int (iI ((nn : Int))), .int (iI pl), .int (iI yr), .int (iI mn), .int (iI dy), .int (iI ((i : Int))), .ref oA, .ref sA, .ref eA, .ref gA, .ref cA, .ref rA, .ref fA])), (tA, .inl (cB, 400, .inl f)), (rA, .inl (cI, 8, .inl rr))]) [(mm, .inr (4, [.int (iI fa), .ref tA, .int (iI ((nn : Int))), .int (iI pl), .int (iI yr), .int (iI mn), .int (iI dy), .int (iI ((((zDg nn f (((zDg nn f (((zDg nn f (i + 1)).2) + 1)).2) + 1)).2 : Nat) : Int))), .ref oA, .ref sA, .ref eA, .ref gA, .ref cA, .ref rA, .ref fA])), (tA, .inl (cB, 400, .inl f)), (rA, .inl (cI, 8, .inl (upd (upd (upd rr b (iI ((zDg nn f (i + 1)).1))) (b + 1) (iI ((zDg nn f (((zDg nn f (i + 1)).2) + 1)).1))) (b + 2) (iI ((zDg nn f (((zDg nn f (((zDg nn f (i + 1)).2) + 1)).2) + 1)).1)))))] := hD
              refine lv_aload_n hx hb d_Ref_rule_60 rfl (lv_at hl 0 rfl) ?_
              refine lv_bipush (v := iI 47) hx hb d_Ref_rule_61 (by decide) ?_
              by_cases a7 : zPk nn f ((zDg nn f (((zDg nn f (((zDg nn f (i + 1)).2) + 1)).2) + 1)).2) = 47
              · skip
                have gi7 : (zDg nn f (((zDg nn f (((zDg nn f (i + 1)).2) + 1)).2) + 1)).2 < nn := zPk_lt (f := f) (by omega)
                have hT := hT.trans (rT7_y a7)
                refine m_callV (rest := []) (q0 := 0) hx hb (hml.trans hl.1.symm) hown hk hK k_Ref_99 (ct_Ref_expect l D tys mm tA oA sA eA gA cA rA fA fa nn pl yr mn dy ((zDg nn f (((zDg nn f (((zDg nn f (i + 1)).2) + 1)).2) + 1)).2) cB f 47 hty (by omega) (by omega) (by omega) (by omega) (by omega)) hP hD hS [0, 1] rfl rfl rfl rfl rfl rfl rfl ⟨rfl, rfl⟩ ⟨by decide, by decide, by decide, by decide⟩ (Nat.le_of_ble_eq_true rfl) d_Ref_rule_63 (fun H locs hP hD hS => ?_)
                have hP : va_P D vwCl [(mm, .inr (4, [.int (iI fa), .ref tA, .int (iI ((nn : Int))), .int (iI pl), .int (iI yr), .int (iI mn), .int (iI dy), .int (iI (((((zDg nn f (((zDg nn f (((zDg nn f (i + 1)).2) + 1)).2) + 1)).2) + 1 : Nat) : Int))), .ref oA, .ref sA, .ref eA, .ref gA, .ref cA, .ref rA, .ref fA])), (tA, .inl (cB, 400, .inl f)), (rA, .inl (cI, 8, .inl (upd (upd (upd rr b (iI ((zDg nn f (i + 1)).1))) (b + 1) (iI ((zDg nn f (((zDg nn f (i + 1)).2) + 1)).1))) (b + 2) (iI ((zDg nn f (((zDg nn f (((zDg nn f (i + 1)).2) + 1)).2) + 1)).1)))))] H := hP
                have hD : va_D (wA [(mm, .inr (4, [.int (iI fa), .ref tA, .int (iI ((nn : Int))), .int (iI pl), .int (iI yr), .int (iI mn), .int (iI dy), .int (iI ((i : Int))), .ref oA, .ref sA, .ref eA, .ref gA, .ref cA, .ref rA, .ref fA])), (tA, .inl (cB, 400, .inl f)), (rA, .inl (cI, 8, .inl rr))]) [(mm, .inr (4, [.int (iI fa), .ref tA, .int (iI ((nn : Int))), .int (iI pl), .int (iI yr), .int (iI mn), .int (iI dy), .int (iI (((((zDg nn f (((zDg nn f (((zDg nn f (i + 1)).2) + 1)).2) + 1)).2) + 1 : Nat) : Int))), .ref oA, .ref sA, .ref eA, .ref gA, .ref cA, .ref rA, .ref fA])), (tA, .inl (cB, 400, .inl f)), (rA, .inl (cI, 8, .inl (upd (upd (upd rr b (iI ((zDg nn f (i + 1)).1))) (b + 1) (iI ((zDg nn f (((zDg nn f (i + 1)).2) + 1)).1))) (b + 2) (iI ((zDg nn f (((zDg nn f (((zDg nn f (i + 1)).2) + 1)).2) + 1)).1)))))] := hD
                refine lv_aload_n hx hb d_Ref_rule_66 rfl (lv_at hl 0 rfl) ?_
                refine g_get hx hb hk hown hK hP 0 rfl f_Ref_37 rfl d_Ref_rule_67 ?_
                refine lv_iload_n hx hb d_Ref_rule_70 rfl (lv_at hl 1 rfl) ?_
                refine lv_iconst (v := iI 3) hx hb d_Ref_rule_71 rfl ?_
                refine ri_iadd hx hb d_Ref_rule_72 ?_
                refine ri_i (show ((b : Int)) + 3 = ((b + 3 : Nat) : Int) from by omega) ?_
                refine lv_aload_n hx hb d_Ref_rule_73 rfl (lv_at hl 0 rfl) ?_
                refine lv_iconst (v := iI 0) hx hb d_Ref_rule_74 rfl ?_
                refine lv_sipush (v := iI 1439) hx hb d_Ref_rule_75 (by decide) ?_
                have gD8 := zDg_b (n := nn) (f := f) (i := ((zDg nn f (((zDg nn f (((zDg nn f (i + 1)).2) + 1)).2) + 1)).2) + 1) (by omega)
                by_cases b8 : ((zDg nn f (((zDg nn f (((zDg nn f (((zDg nn f (i + 1)).2) + 1)).2) + 1)).2) + 1)).1 < 0 ∨ 1439 < (zDg nn f (((zDg nn f (((zDg nn f (((zDg nn f (i + 1)).2) + 1)).2) + 1)).2) + 1)).1)
                · skip
                  have hT := hT.trans (rT8_n b8)
                  exact absurd (show true = false from (congrArg Prod.snd hT).symm.trans gq) (by decide)
                · skip
                  have hT := hT.trans (rT8_y b8)
                  refine m_callV (rest := [.int (iI (((b + 3 : Nat) : Int))), .ref rA]) (q0 := 0) hx hb (hml.trans hl.1.symm) hown hk hK k_Ref_102 (ct_Ref_ranged l D tys mm tA oA sA eA gA cA rA fA fa nn pl yr mn dy (((zDg nn f (((zDg nn f (((zDg nn f (i + 1)).2) + 1)).2) + 1)).2) + 1) cB f 0 1439 hty (by omega) (by omega) (by omega) (by omega) (by omega) (by omega) (by omega)) hP hD hS [0, 1] rfl rfl rfl rfl rfl rfl rfl ⟨rfl, rfl⟩ ⟨by decide, by decide, by decide, by decide⟩ (Nat.le_of_ble_eq_true rfl) d_Ref_rule_78 (fun H locs hP hD hS => ?_)
                  have hP : va_P D vwCl [(mm, .inr (4, [.int (iI fa), .ref tA, .int (iI ((nn : Int))), .int (iI pl), .int (iI yr), .int (iI mn), .int (iI dy), .int (iI ((((zDg nn f (((zDg nn f (((zDg nn f (((zDg nn f (i + 1)).2) + 1)).2) + 1)).2) + 1)).2 : Nat) : Int))), .ref oA, .ref sA, .ref eA, .ref gA, .ref cA, .ref rA, .ref fA])), (tA, .inl (cB, 400, .inl f)), (rA, .inl (cI, 8, .inl (upd (upd (upd rr b (iI ((zDg nn f (i + 1)).1))) (b + 1) (iI ((zDg nn f (((zDg nn f (i + 1)).2) + 1)).1))) (b + 2) (iI ((zDg nn f (((zDg nn f (((zDg nn f (i + 1)).2) + 1)).2) + 1)).1)))))] H := hP
                  have hD : va_D (wA [(mm, .inr (4, [.int (iI fa), .ref tA, .int (iI ((nn : Int))), .int (iI pl), .int (iI yr), .int (iI mn), .int (iI dy), .int (iI ((i : Int))), .ref oA, .ref sA, .ref eA, .ref gA, .ref cA, .ref rA, .ref fA])), (tA, .inl (cB, 400, .inl f)), (rA, .inl (cI, 8, .inl rr))]) [(mm, .inr (4, [.int (iI fa), .ref tA, .int (iI ((nn : Int))), .int (iI pl), .int (iI yr), .int (iI mn), .int (iI dy), .int (iI ((((zDg nn f (((zDg nn f (((zDg nn f (((zDg nn f (i + 1)).2) + 1)).2) + 1)).2) + 1)).2 : Nat) : Int))), .ref oA, .ref sA, .ref eA, .ref gA, .ref cA, .ref rA, .ref fA])), (tA, .inl (cB, 400, .inl f)), (rA, .inl (cI, 8, .inl (upd (upd (upd rr b (iI ((zDg nn f (i + 1)).1))) (b + 1) (iI ((zDg nn f (((zDg nn f (i + 1)).2) + 1)).1))) (b + 2) (iI ((zDg nn f (((zDg nn f (((zDg nn f (i + 1)).2) + 1)).2) + 1)).1)))))] := hD
                  refine g_iast (i := b + 3) hx hb hK hP hD hS 2 1 rfl hI d_Ref_rule_81 (fun H locs hP hD hS => ?_) (by omega) (by decide)
                  have hP : va_P D vwCl [(mm, .inr (4, [.int (iI fa), .ref tA, .int (iI ((nn : Int))), .int (iI pl), .int (iI yr), .int (iI mn), .int (iI dy), .int (iI ((((zDg nn f (((zDg nn f (((zDg nn f (((zDg nn f (i + 1)).2) + 1)).2) + 1)).2) + 1)).2 : Nat) : Int))), .ref oA, .ref sA, .ref eA, .ref gA, .ref cA, .ref rA, .ref fA])), (tA, .inl (cB, 400, .inl f)), (rA, .inl (cI, 8, .inl (upd (upd (upd (upd rr b (iI ((zDg nn f (i + 1)).1))) (b + 1) (iI ((zDg nn f (((zDg nn f (i + 1)).2) + 1)).1))) (b + 2) (iI ((zDg nn f (((zDg nn f (((zDg nn f (i + 1)).2) + 1)).2) + 1)).1))) (b + 3) (iI ((zDg nn f (((zDg nn f (((zDg nn f (((zDg nn f (i + 1)).2) + 1)).2) + 1)).2) + 1)).1)))))] H := hP
                  have hD : va_D (wA [(mm, .inr (4, [.int (iI fa), .ref tA, .int (iI ((nn : Int))), .int (iI pl), .int (iI yr), .int (iI mn), .int (iI dy), .int (iI ((i : Int))), .ref oA, .ref sA, .ref eA, .ref gA, .ref cA, .ref rA, .ref fA])), (tA, .inl (cB, 400, .inl f)), (rA, .inl (cI, 8, .inl rr))]) [(mm, .inr (4, [.int (iI fa), .ref tA, .int (iI ((nn : Int))), .int (iI pl), .int (iI yr), .int (iI mn), .int (iI dy), .int (iI ((((zDg nn f (((zDg nn f (((zDg nn f (((zDg nn f (i + 1)).2) + 1)).2) + 1)).2) + 1)).2 : Nat) : Int))), .ref oA, .ref sA, .ref eA, .ref gA, .ref cA, .ref rA, .ref fA])), (tA, .inl (cB, 400, .inl f)), (rA, .inl (cI, 8, .inl (upd (upd (upd (upd rr b (iI ((zDg nn f (i + 1)).1))) (b + 1) (iI ((zDg nn f (((zDg nn f (i + 1)).2) + 1)).1))) (b + 2) (iI ((zDg nn f (((zDg nn f (((zDg nn f (i + 1)).2) + 1)).2) + 1)).1))) (b + 3) (iI ((zDg nn f (((zDg nn f (((zDg nn f (((zDg nn f (i + 1)).2) + 1)).2) + 1)).2) + 1)).1)))))] := hD
                  have eR := zRu_all a1 b2 rfl a3 b4 rfl a5 b6 rfl a7 b8
                  exact m_vret hx hb hr hlk hP hS d_Ref_rule_82 (by rw [eR])
              · skip
                have hT := hT.trans (rT7_n a7)
                exact absurd (show true = false from (congrArg Prod.snd hT).symm.trans gq) (by decide)
          · skip
            have hT := hT.trans (rT5_n a5)
            exact absurd (show true = false from (congrArg Prod.snd hT).symm.trans gq) (by decide)
      · skip
        have hT := hT.trans (rT3_n a3)
        exact absurd (show true = false from (congrArg Prod.snd hT).symm.trans gq) (by decide)
  · skip
    have hT := hT.trans (rT1_n a1)
    exact absurd (show true = false from (congrArg Prod.snd hT).symm.trans gq) (by decide)
abbrev rm_Ref_rule_x : Room := { frames := 8, cells := 1, slots := 6, locals := 145 }
set_option maxHeartbeats 4000000 in
set_option maxRecDepth 100000 in
theorem ct_Ref_rule_x (l : Launch) (D : va_G) (tys : List (ClassId × FieldType)) (aS : Nat) (hoff : l.stackTraces = false) (mm : Nat) (tA : Nat) (oA : Nat) (sA : Nat) (eA : Nat) (gA : Nat) (cA : Nat) (rA : Nat) (fA : Nat) (fa : Int) (nn : Nat) (pl : Int) (yr : Int) (mn : Int) (dy : Int) (i : Nat) (cB : ClassId) (f : Nat → Int32) (cI : ClassId) (rr : Nat → Int32) (b : Nat) (hty : tys[0]? = some (cB, .byte)) (hI : tys[1]? = some (cI, .int)) (gn : nn ≤ 400) (gi : i ≤ nn) (gb : b ≤ 4) (gq : (zRu nn f (i, false)).2.2 = true) : xMetG l y_Ref_rule c_Ref_rule 2 none rm_Ref_rule_x D tys aS [.ref mm, .int (iI ((b : Int)))] [(mm, .inr (4, [.int (iI fa), .ref tA, .int (iI ((nn : Int))), .int (iI pl), .int (iI yr), .int (iI mn), .int (iI dy), .int (iI ((i : Int))), .ref oA, .ref sA, .ref eA, .ref gA, .ref cA, .ref rA, .ref fA])), (tA, .inl (cB, 400, .inl f)), (rA, .inl (cI, 8, .inl rr))] (xQE D [(mm, .inr (4, [.int (iI fa), .ref tA, .int (iI ((nn : Int))), .int (iI pl), .int (iI yr), .int (iI mn), .int (iI dy), .int (iI ((i : Int))), .ref oA, .ref sA, .ref eA, .ref gA, .ref cA, .ref rA, .ref fA])), (tA, .inl (cB, 400, .inl f)), (rA, .inl (cI, 8, .inl rr))] (fun w => ∃ (a' : Nat) (r' : Nat → Int32), a' ≤ nn ∧ w = [(mm, .inr (4, [.int (iI fa), .ref tA, .int (iI ((nn : Int))), .int (iI ((((zRu nn f (i, false)).2.1 : Nat) : Int))), .int (iI yr), .int (iI mn), .int (iI dy), .int (iI ((a' : Int))), .ref oA, .ref sA, .ref eA, .ref gA, .ref cA, .ref rA, .ref fA])), (tA, .inl (cB, 400, .inl f)), (rA, .inl (cI, 8, .inl r'))]) "java/lang/UnsupportedOperationException") := by
  refine xG_of (by decide) (Nat.le_of_ble_eq_true rfl) ?_
  intro p e s m below meth c hx hb hr hown hlk hml hE hk hK hP hD hS hAS hZ ls hl
  have hl : lv_has ls 2 [(0, .ref mm), (1, .int (iI ((b : Int))))] := hl
  have hT := zRu_T (n := nn) (f := f) (z := (i, false))
  refine lv_aload_n hx hb d_Ref_rule_0 rfl (lv_at hl 0 rfl) ?_
  refine lv_bipush (v := iI 77) hx hb d_Ref_rule_1 (by decide) ?_
  by_cases a1 : zPk nn f (i) = 77
  · skip
    have gi1 : i < nn := zPk_lt (f := f) (by omega)
    have hT := hT.trans (rT1_y a1)
    refine m_callV (rest := []) (q0 := 0) hx hb (hml.trans hl.1.symm) hown hk hK k_Ref_99 (ct_Ref_expect l D tys mm tA oA sA eA gA cA rA fA fa nn pl yr mn dy i cB f 77 hty (by omega) (by omega) (by omega) (by omega) (by omega)) hP hD hS [0, 1] rfl rfl rfl rfl rfl rfl rfl ⟨rfl, rfl⟩ ⟨by decide, by decide, by decide, by decide⟩ (Nat.le_of_ble_eq_true rfl) d_Ref_rule_3 (fun H locs hP hD hS => ?_)
    have hP : va_P D vwCl [(mm, .inr (4, [.int (iI fa), .ref tA, .int (iI ((nn : Int))), .int (iI pl), .int (iI yr), .int (iI mn), .int (iI dy), .int (iI (((i + 1 : Nat) : Int))), .ref oA, .ref sA, .ref eA, .ref gA, .ref cA, .ref rA, .ref fA])), (tA, .inl (cB, 400, .inl f)), (rA, .inl (cI, 8, .inl rr))] H := hP
    have hD : va_D (wA [(mm, .inr (4, [.int (iI fa), .ref tA, .int (iI ((nn : Int))), .int (iI pl), .int (iI yr), .int (iI mn), .int (iI dy), .int (iI ((i : Int))), .ref oA, .ref sA, .ref eA, .ref gA, .ref cA, .ref rA, .ref fA])), (tA, .inl (cB, 400, .inl f)), (rA, .inl (cI, 8, .inl rr))]) [(mm, .inr (4, [.int (iI fa), .ref tA, .int (iI ((nn : Int))), .int (iI pl), .int (iI yr), .int (iI mn), .int (iI dy), .int (iI (((i + 1 : Nat) : Int))), .ref oA, .ref sA, .ref eA, .ref gA, .ref cA, .ref rA, .ref fA])), (tA, .inl (cB, 400, .inl f)), (rA, .inl (cI, 8, .inl rr))] := hD
    refine lv_aload_n hx hb d_Ref_rule_6 rfl (lv_at hl 0 rfl) ?_
    refine g_get hx hb hk hown hK hP 0 rfl f_Ref_37 rfl d_Ref_rule_7 ?_
    refine lv_iload_n hx hb d_Ref_rule_10 rfl (lv_at hl 1 rfl) ?_
    refine lv_aload_n hx hb d_Ref_rule_11 rfl (lv_at hl 0 rfl) ?_
    refine lv_iconst (v := iI 1) hx hb d_Ref_rule_12 rfl ?_
    refine lv_bipush (v := iI 12) hx hb d_Ref_rule_13 (by decide) ?_
    have gD2 := zDg_b (n := nn) (f := f) (i := i + 1) (by omega)
    by_cases b2 : ((zDg nn f (i + 1)).1 < 1 ∨ 12 < (zDg nn f (i + 1)).1)
    · skip
      have hT := hT.trans (rT2_n b2)
      have ePl := congrArg Prod.fst hT
      simp only at ePl
      exact xE_thr (xG_runV (rest := [.int (iI ((b : Int))), .ref rA]) (q0 := 0) hx hb (hml.trans hl.1.symm) hown hk hK k_Ref_102 (xMet.toE (ct_Ref_ranged_x l D tys aS hoff mm tA oA sA eA gA cA rA fA fa nn pl yr mn dy (i + 1) cB f 1 12 hty (by omega) (by omega) (by omega) (by omega) (by omega) (by omega) (by omega)) (Pw := fun wq => wq = [(mm, .inr (4, [.int (iI fa), .ref tA, .int (iI ((nn : Int))), .int (iI ((((i + 1) : Nat) : Int))), .int (iI yr), .int (iI mn), .int (iI dy), .int (iI ((((zDg nn f (i + 1)).2 : Nat) : Int))), .ref oA, .ref sA, .ref eA, .ref gA, .ref cA, .ref rA, .ref fA])), (tA, .inl (cB, 400, .inl f))]) rfl rfl) (w_subP (is := [0, 1]) hP rfl) (x_subD (is := [0, 1]) hD hAS rfl rfl) (x_zH hZ hS hAS) rfl rfl rfl rfl ⟨by decide, by decide, by decide, by decide⟩ (Nat.le_of_ble_eq_true rfl) d_Ref_rule_15) hE hlk hP hD hS [0, 1] rfl rfl (by rintro _ rfl; exact ⟨_, _, And.symm ⟨by rw [ePl]; rfl, by omega⟩⟩)
    · skip
      have hT := hT.trans (rT2_y b2)
      refine m_callV (rest := [.int (iI ((b : Int))), .ref rA]) (q0 := 0) hx hb (hml.trans hl.1.symm) hown hk hK k_Ref_102 (ct_Ref_ranged l D tys mm tA oA sA eA gA cA rA fA fa nn pl yr mn dy (i + 1) cB f 1 12 hty (by omega) (by omega) (by omega) (by omega) (by omega) (by omega) (by omega)) hP hD hS [0, 1] rfl rfl rfl rfl rfl rfl rfl ⟨rfl, rfl⟩ ⟨by decide, by decide, by decide, by decide⟩ (Nat.le_of_ble_eq_true rfl) d_Ref_rule_15 (fun H locs hP hD hS => ?_)
      have hP : va_P D vwCl [(mm, .inr (4, [.int (iI fa), .ref tA, .int (iI ((nn : Int))), .int (iI pl), .int (iI yr), .int (iI mn), .int (iI dy), .int (iI ((((zDg nn f (i + 1)).2 : Nat) : Int))), .ref oA, .ref sA, .ref eA, .ref gA, .ref cA, .ref rA, .ref fA])), (tA, .inl (cB, 400, .inl f)), (rA, .inl (cI, 8, .inl rr))] H := hP
      have hD : va_D (wA [(mm, .inr (4, [.int (iI fa), .ref tA, .int (iI ((nn : Int))), .int (iI pl), .int (iI yr), .int (iI mn), .int (iI dy), .int (iI ((i : Int))), .ref oA, .ref sA, .ref eA, .ref gA, .ref cA, .ref rA, .ref fA])), (tA, .inl (cB, 400, .inl f)), (rA, .inl (cI, 8, .inl rr))]) [(mm, .inr (4, [.int (iI fa), .ref tA, .int (iI ((nn : Int))), .int (iI pl), .int (iI yr), .int (iI mn), .int (iI dy), .int (iI ((((zDg nn f (i + 1)).2 : Nat) : Int))), .ref oA, .ref sA, .ref eA, .ref gA, .ref cA, .ref rA, .ref fA])), (tA, .inl (cB, 400, .inl f)), (rA, .inl (cI, 8, .inl rr))] := hD
      refine g_iast (i := b) hx hb hK hP hD hS 2 1 rfl hI d_Ref_rule_18 (fun H locs hP hD hS => ?_) (by omega) (by decide)
      have hP : va_P D vwCl [(mm, .inr (4, [.int (iI fa), .ref tA, .int (iI ((nn : Int))), .int (iI pl), .int (iI yr), .int (iI mn), .int (iI dy), .int (iI ((((zDg nn f (i + 1)).2 : Nat) : Int))), .ref oA, .ref sA, .ref eA, .ref gA, .ref cA, .ref rA, .ref fA])), (tA, .inl (cB, 400, .inl f)), (rA, .inl (cI, 8, .inl (upd rr b (iI ((zDg nn f (i + 1)).1)))))] H := hP
      have hD : va_D (wA [(mm, .inr (4, [.int (iI fa), .ref tA, .int (iI ((nn : Int))), .int (iI pl), .int (iI yr), .int (iI mn), .int (iI dy), .int (iI ((i : Int))), .ref oA, .ref sA, .ref eA, .ref gA, .ref cA, .ref rA, .ref fA])), (tA, .inl (cB, 400, .inl f)), (rA, .inl (cI, 8, .inl rr))]) [(mm, .inr (4, [.int (iI fa), .ref tA, .int (iI ((nn : Int))), .int (iI pl), .int (iI yr), .int (iI mn), .int (iI dy), .int (iI ((((zDg nn f (i + 1)).2 : Nat) : Int))), .ref oA, .ref sA, .ref eA, .ref gA, .ref cA, .ref rA, .ref fA])), (tA, .inl (cB, 400, .inl f)), (rA, .inl (cI, 8, .inl (upd rr b (iI ((zDg nn f (i + 1)).1)))))] := hD
      refine lv_aload_n hx hb d_Ref_rule_19 rfl (lv_at hl 0 rfl) ?_
      refine lv_bipush (v := iI 46) hx hb d_Ref_rule_20 (by decide) ?_
      by_cases a3 : zPk nn f ((zDg nn f (i + 1)).2) = 46
      · skip
        have gi3 : (zDg nn f (i + 1)).2 < nn := zPk_lt (f := f) (by omega)
        have hT := hT.trans (rT3_y a3)
        refine m_callV (rest := []) (q0 := 0) hx hb (hml.trans hl.1.symm) hown hk hK k_Ref_99 (ct_Ref_expect l D tys mm tA oA sA eA gA cA rA fA fa nn pl yr mn dy ((zDg nn f (i + 1)).2) cB f 46 hty (by omega) (by omega) (by omega) (by omega) (by omega)) hP hD hS [0, 1] rfl rfl rfl rfl rfl rfl rfl ⟨rfl, rfl⟩ ⟨by decide, by decide, by decide, by decide⟩ (Nat.le_of_ble_eq_true rfl) d_Ref_rule_22 (fun H locs hP hD hS => ?_)
        have hP : va_P D vwCl [(mm, .inr (4, [.int (iI fa), .ref tA, .int (iI ((nn : Int))), .int (iI pl), .int (iI yr), .int (iI mn), .int (iI dy), .int (iI (((((zDg nn f (i + 1)).2) + 1 : Nat) : Int))), .ref oA, .ref sA, .ref eA, .ref gA, .ref cA, .ref rA, .ref fA])), (tA, .inl (cB, 400, .inl f)), (rA, .inl (cI, 8, .inl (upd rr b (iI ((zDg nn f (i + 1)).1)))))] H := hP
        have hD : va_D (wA [(mm, .inr (4, [.int (iI fa), .ref tA, .int (iI ((nn : Int))), .int (iI pl), .int (iI yr), .int (iI mn), .int (iI dy), .int (iI ((i : Int))), .ref oA, .ref sA, .ref eA, .ref gA, .ref cA, .ref rA, .ref fA])), (tA, .inl (cB, 400, .inl f)), (rA, .inl (cI, 8, .inl rr))]) [(mm, .inr (4, [.int (iI fa), .ref tA, .int (iI ((nn : Int))), .int (iI pl), .int (iI yr), .int (iI mn), .int (iI dy), .int (iI (((((zDg nn f (i + 1)).2) + 1 : Nat) : Int))), .ref oA, .ref sA, .ref eA, .ref gA, .ref cA, .ref rA, .ref fA])), (tA, .inl (cB, 400, .inl f)), (rA, .inl (cI, 8, .inl (upd rr b (iI ((zDg nn f (i + 1)).1)))))] := hD
        refine lv_aload_n hx hb d_Ref_rule_25 rfl (lv_at hl 0 rfl) ?_
        refine g_get hx hb hk hown hK hP 0 rfl f_Ref_37 rfl d_Ref_rule_26 ?_
        refine lv_iload_n hx hb d_Ref_rule_29 rfl (lv_at hl 1 rfl) ?_
        refine lv_iconst (v := iI 1) hx hb d_Ref_rule_30 rfl ?_
        refine ri_iadd hx hb d_Ref_rule_31 ?_
        refine ri_i (show ((b : Int)) + 1 = ((b + 1 : Nat) : Int) from by omega) ?_
        refine lv_aload_n hx hb d_Ref_rule_32 rfl (lv_at hl 0 rfl) ?_
        refine lv_iconst (v := iI 1) hx hb d_Ref_rule_33 rfl ?_
        refine lv_iconst (v := iI 5) hx hb d_Ref_rule_34 rfl ?_
        have gD4 := zDg_b (n := nn) (f := f) (i := ((zDg nn f (i + 1)).2) + 1) (by omega)
        by_cases b4 : ((zDg nn f (((zDg nn f (i + 1)).2) + 1)).1 < 1 ∨ 5 < (zDg nn f (((zDg nn f (i + 1)).2) + 1)).1)
        · skip
          have hT := hT.trans (rT4_n b4)
          have ePl := congrArg Prod.fst hT
          simp only at ePl
          exact xE_thr (xG_runV (rest := [.int (iI (((b + 1 : Nat) : Int))), .ref rA]) (q0 := 0) hx hb (hml.trans hl.1.symm) hown hk hK k_Ref_102 (xMet.toE (ct_Ref_ranged_x l D tys aS hoff mm tA oA sA eA gA cA rA fA fa nn pl yr mn dy (((zDg nn f (i + 1)).2) + 1) cB f 1 5 hty (by omega) (by omega) (by omega) (by omega) (by omega) (by omega) (by omega)) (Pw := fun wq => wq = [(mm, .inr (4, [.int (iI fa), .ref tA, .int (iI ((nn : Int))), .int (iI ((((((zDg nn f (i + 1)).2) + 1) : Nat) : Int))), .int (iI yr), .int (iI mn), .int (iI dy), .int (iI ((((zDg nn f (((zDg nn f (i + 1)).2) + 1)).2 : Nat) : Int))), .ref oA, .ref sA, .ref eA, .ref gA, .ref cA, .ref rA, .ref fA])), (tA, .inl (cB, 400, .inl f))]) rfl rfl) (w_subP (is := [0, 1]) hP rfl) (x_subD (is := [0, 1]) hD hAS rfl rfl) (x_zH hZ hS hAS) rfl rfl rfl rfl ⟨by decide, by decide, by decide, by decide⟩ (Nat.le_of_ble_eq_true rfl) d_Ref_rule_35) hE hlk hP hD hS [0, 1] rfl rfl (by rintro _ rfl; exact ⟨_, _, And.symm ⟨by rw [ePl]; rfl, by omega⟩⟩)
        · skip
          have hT := hT.trans (rT4_y b4)
          refine m_callV (rest := [.int (iI (((b + 1 : Nat) : Int))), .ref rA]) (q0 := 0) hx hb (hml.trans hl.1.symm) hown hk hK k_Ref_102 (ct_Ref_ranged l D tys mm tA oA sA eA gA cA rA fA fa nn pl yr mn dy (((zDg nn f (i + 1)).2) + 1) cB f 1 5 hty (by omega) (by omega) (by omega) (by omega) (by omega) (by omega) (by omega)) hP hD hS [0, 1] rfl rfl rfl rfl rfl rfl rfl ⟨rfl, rfl⟩ ⟨by decide, by decide, by decide, by decide⟩ (Nat.le_of_ble_eq_true rfl) d_Ref_rule_35 (fun H locs hP hD hS => ?_)
          have hP : va_P D vwCl [(mm, .inr (4, [.int (iI fa), .ref tA, .int (iI ((nn : Int))), .int (iI pl), .int (iI yr), .int (iI mn), .int (iI dy), .int (iI ((((zDg nn f (((zDg nn f (i + 1)).2) + 1)).2 : Nat) : Int))), .ref oA, .ref sA, .ref eA, .ref gA, .ref cA, .ref rA, .ref fA])), (tA, .inl (cB, 400, .inl f)), (rA, .inl (cI, 8, .inl (upd rr b (iI ((zDg nn f (i + 1)).1)))))] H := hP
          have hD : va_D (wA [(mm, .inr (4, [.int (iI fa), .ref tA, .int (iI ((nn : Int))), .int (iI pl), .int (iI yr), .int (iI mn), .int (iI dy), .int (iI ((i : Int))), .ref oA, .ref sA, .ref eA, .ref gA, .ref cA, .ref rA, .ref fA])), (tA, .inl (cB, 400, .inl f)), (rA, .inl (cI, 8, .inl rr))]) [(mm, .inr (4, [.int (iI fa), .ref tA, .int (iI ((nn : Int))), .int (iI pl), .int (iI yr), .int (iI mn), .int (iI dy), .int (iI ((((zDg nn f (((zDg nn f (i + 1)).2) + 1)).2 : Nat) : Int))), .ref oA, .ref sA, .ref eA, .ref gA, .ref cA, .ref rA, .ref fA])), (tA, .inl (cB, 400, .inl f)), (rA, .inl (cI, 8, .inl (upd rr b (iI ((zDg nn f (i + 1)).1)))))] := hD
          refine g_iast (i := b + 1) hx hb hK hP hD hS 2 1 rfl hI d_Ref_rule_38 (fun H locs hP hD hS => ?_) (by omega) (by decide)
          have hP : va_P D vwCl [(mm, .inr (4, [.int (iI fa), .ref tA, .int (iI ((nn : Int))), .int (iI pl), .int (iI yr), .int (iI mn), .int (iI dy), .int (iI ((((zDg nn f (((zDg nn f (i + 1)).2) + 1)).2 : Nat) : Int))), .ref oA, .ref sA, .ref eA, .ref gA, .ref cA, .ref rA, .ref fA])), (tA, .inl (cB, 400, .inl f)), (rA, .inl (cI, 8, .inl (upd (upd rr b (iI ((zDg nn f (i + 1)).1))) (b + 1) (iI ((zDg nn f (((zDg nn f (i + 1)).2) + 1)).1)))))] H := hP
          have hD : va_D (wA [(mm, .inr (4, [.int (iI fa), .ref tA, .int (iI ((nn : Int))), .int (iI pl), .int (iI yr), .int (iI mn), .int (iI dy), .int (iI ((i : Int))), .ref oA, .ref sA, .ref eA, .ref gA, .ref cA, .ref rA, .ref fA])), (tA, .inl (cB, 400, .inl f)), (rA, .inl (cI, 8, .inl rr))]) [(mm, .inr (4, [.int (iI fa), .ref tA, .int (iI ((nn : Int))), .int (iI pl), .int (iI yr), .int (iI mn), .int (iI dy), .int (iI ((((zDg nn f (((zDg nn f (i + 1)).2) + 1)).2 : Nat) : Int))), .ref oA, .ref sA, .ref eA, .ref gA, .ref cA, .ref rA, .ref fA])), (tA, .inl (cB, 400, .inl f)), (rA, .inl (cI, 8, .inl (upd (upd rr b (iI ((zDg nn f (i + 1)).1))) (b + 1) (iI ((zDg nn f (((zDg nn f (i + 1)).2) + 1)).1)))))] := hD
          refine lv_aload_n hx hb d_Ref_rule_39 rfl (lv_at hl 0 rfl) ?_
          refine lv_bipush (v := iI 46) hx hb d_Ref_rule_40 (by decide) ?_
          by_cases a5 : zPk nn f ((zDg nn f (((zDg nn f (i + 1)).2) + 1)).2) = 46
          · skip
            have gi5 : (zDg nn f (((zDg nn f (i + 1)).2) + 1)).2 < nn := zPk_lt (f := f) (by omega)
            have hT := hT.trans (rT5_y a5)
            refine m_callV (rest := []) (q0 := 0) hx hb (hml.trans hl.1.symm) hown hk hK k_Ref_99 (ct_Ref_expect l D tys mm tA oA sA eA gA cA rA fA fa nn pl yr mn dy ((zDg nn f (((zDg nn f (i + 1)).2) + 1)).2) cB f 46 hty (by omega) (by omega) (by omega) (by omega) (by omega)) hP hD hS [0, 1] rfl rfl rfl rfl rfl rfl rfl ⟨rfl, rfl⟩ ⟨by decide, by decide, by decide, by decide⟩ (Nat.le_of_ble_eq_true rfl) d_Ref_rule_42 (fun H locs hP hD hS => ?_)
            have hP : va_P D vwCl [(mm, .inr (4, [.int (iI fa), .ref tA, .int (iI ((nn : Int))), .int (iI pl), .int (iI yr), .int (iI mn), .int (iI dy), .int (iI (((((zDg nn f (((zDg nn f (i + 1)).2) + 1)).2) + 1 : Nat) : Int))), .ref oA, .ref sA, .ref eA, .ref gA, .ref cA, .ref rA, .ref fA])), (tA, .inl (cB, 400, .inl f)), (rA, .inl (cI, 8, .inl (upd (upd rr b (iI ((zDg nn f (i + 1)).1))) (b + 1) (iI ((zDg nn f (((zDg nn f (i + 1)).2) + 1)).1)))))] H := hP
            have hD : va_D (wA [(mm, .inr (4, [.int (iI fa), .ref tA, .int (iI ((nn : Int))), .int (iI pl), .int (iI yr), .int (iI mn), .int (iI dy), .int (iI ((i : Int))), .ref oA, .ref sA, .ref eA, .ref gA, .ref cA, .ref rA, .ref fA])), (tA, .inl (cB, 400, .inl f)), (rA, .inl (cI, 8, .inl rr))]) [(mm, .inr (4, [.int (iI fa), .ref tA, .int (iI ((nn : Int))), .int (iI pl), .int (iI yr), .int (iI mn), .int (iI dy), .int (iI (((((zDg nn f (((zDg nn f (i + 1)).2) + 1)).2) + 1 : Nat) : Int))), .ref oA, .ref sA, .ref eA, .ref gA, .ref cA, .ref rA, .ref fA])), (tA, .inl (cB, 400, .inl f)), (rA, .inl (cI, 8, .inl (upd (upd rr b (iI ((zDg nn f (i + 1)).1))) (b + 1) (iI ((zDg nn f (((zDg nn f (i + 1)).2) + 1)).1)))))] := hD
            refine lv_aload_n hx hb d_Ref_rule_45 rfl (lv_at hl 0 rfl) ?_
            refine g_get hx hb hk hown hK hP 0 rfl f_Ref_37 rfl d_Ref_rule_46 ?_
            refine lv_iload_n hx hb d_Ref_rule_49 rfl (lv_at hl 1 rfl) ?_
            refine lv_iconst (v := iI 2) hx hb d_Ref_rule_50 rfl ?_
            refine ri_iadd hx hb d_Ref_rule_51 ?_
            refine ri_i (show ((b : Int)) + 2 = ((b + 2 : Nat) : Int) from by omega) ?_
            refine lv_aload_n hx hb d_Ref_rule_52 rfl (lv_at hl 0 rfl) ?_
            refine lv_iconst (v := iI 0) hx hb d_Ref_rule_53 rfl ?_
            refine lv_bipush (v := iI 6) hx hb d_Ref_rule_54 (by decide) ?_
            have gD6 := zDg_b (n := nn) (f := f) (i := ((zDg nn f (((zDg nn f (i + 1)).2) + 1)).2) + 1) (by omega)
            by_cases b6 : ((zDg nn f (((zDg nn f (((zDg nn f (i + 1)).2) + 1)).2) + 1)).1 < 0 ∨ 6 < (zDg nn f (((zDg nn f (((zDg nn f (i + 1)).2) + 1)).2) + 1)).1)
            · skip
              have hT := hT.trans (rT6_n b6)
              have ePl := congrArg Prod.fst hT
              simp only at ePl
              exact xE_thr (xG_runV (rest := [.int (iI (((b + 2 : Nat) : Int))), .ref rA]) (q0 := 0) hx hb (hml.trans hl.1.symm) hown hk hK k_Ref_102 (xMet.toE (ct_Ref_ranged_x l D tys aS hoff mm tA oA sA eA gA cA rA fA fa nn pl yr mn dy (((zDg nn f (((zDg nn f (i + 1)).2) + 1)).2) + 1) cB f 0 6 hty (by omega) (by omega) (by omega) (by omega) (by omega) (by omega) (by omega)) (Pw := fun wq => wq = [(mm, .inr (4, [.int (iI fa), .ref tA, .int (iI ((nn : Int))), .int (iI ((((((zDg nn f (((zDg nn f (i + 1)).2) + 1)).2) + 1) : Nat) : Int))), .int (iI yr), .int (iI mn), .int (iI dy), .int (iI ((((zDg nn f (((zDg nn f (((zDg nn f (i + 1)).2) + 1)).2) + 1)).2 : Nat) : Int))), .ref oA, .ref sA, .ref eA, .ref gA, .ref cA, .ref rA, .ref fA])), (tA, .inl (cB, 400, .inl f))]) rfl rfl) (w_subP (is := [0, 1]) hP rfl) (x_subD (is := [0, 1]) hD hAS rfl rfl) (x_zH hZ hS hAS) rfl rfl rfl rfl ⟨by decide, by decide, by decide, by decide⟩ (Nat.le_of_ble_eq_true rfl) d_Ref_rule_56) hE hlk hP hD hS [0, 1] rfl rfl (by rintro _ rfl; exact ⟨_, _, And.symm ⟨by rw [ePl]; rfl, by omega⟩⟩)
            · skip
              have hT := hT.trans (rT6_y b6)
              refine m_callV (rest := [.int (iI (((b + 2 : Nat) : Int))), .ref rA]) (q0 := 0) hx hb (hml.trans hl.1.symm) hown hk hK k_Ref_102 (ct_Ref_ranged l D tys mm tA oA sA eA gA cA rA fA fa nn pl yr mn dy (((zDg nn f (((zDg nn f (i + 1)).2) + 1)).2) + 1) cB f 0 6 hty (by omega) (by omega) (by omega) (by omega) (by omega) (by omega) (by omega)) hP hD hS [0, 1] rfl rfl rfl rfl rfl rfl rfl ⟨rfl, rfl⟩ ⟨by decide, by decide, by decide, by decide⟩ (Nat.le_of_ble_eq_true rfl) d_Ref_rule_56 (fun H locs hP hD hS => ?_)
              have hP : va_P D vwCl [(mm, .inr (4, [.int (iI fa), .ref tA, .int (iI ((nn : Int))), .int (iI pl), .int (iI yr), .int (iI mn), .int (iI dy), .int (iI ((((zDg nn f (((zDg nn f (((zDg nn f (i + 1)).2) + 1)).2) + 1)).2 : Nat) : Int))), .ref oA, .ref sA, .ref eA, .ref gA, .ref cA, .ref rA, .ref fA])), (tA, .inl (cB, 400, .inl f)), (rA, .inl (cI, 8, .inl (upd (upd rr b (iI ((zDg nn f (i + 1)).1))) (b + 1) (iI ((zDg nn f (((zDg nn f (i + 1)).2) + 1)).1)))))] H := hP
              have hD : va_D (wA [(mm, .inr (4, [.int (iI fa), .ref tA, .int (iI ((nn : Int))), .int (iI pl), .int (iI yr), .int (iI mn), .int (iI dy), .int (iI ((i : Int))), .ref oA, .ref sA, .ref eA, .ref gA, .ref cA, .ref rA, .ref fA])), (tA, .inl (cB, 400, .inl f)), (rA, .inl (cI, 8, .inl rr))]) [(mm, .inr (4, [.int (iI fa), .ref tA, .int (iI ((nn : Int))), .int (iI pl), .int (iI yr), .int (iI mn), .int (iI dy), .int (iI ((((zDg nn f (((zDg nn f (((zDg nn f (i + 1)).2) + 1)).2) + 1)).2 : Nat) : Int))), .ref oA, .ref sA, .ref eA, .ref gA, .ref cA, .ref rA, .ref fA])), (tA, .inl (cB, 400, .inl f)), (rA, .inl (cI, 8, .inl (upd (upd rr b (iI ((zDg nn f (i + 1)).1))) (b + 1) (iI ((zDg nn f (((zDg nn f (i + 1)).2) + 1)).1)))))] := hD
              refine g_iast (i := b + 2) hx hb hK hP hD hS 2 1 rfl hI d_Ref_rule_59 (fun H locs hP hD hS => ?_) (by omega) (by decide)
              have hP : va_P D vwCl [(mm, .inr (4, [.int (iI fa), .ref tA, .int (iI ((nn : Int))), .int (iI pl), .int (iI yr), .int (iI mn), .int (iI dy), .int (iI ((((zDg nn f (((zDg nn f (((zDg nn f (i + 1)).2) + 1)).2) + 1)).2 : Nat) : Int))), .ref oA, .ref sA, .ref eA, .ref gA, .ref cA, .ref rA, .ref fA])), (tA, .inl (cB, 400, .inl f)), (rA, .inl (cI, 8, .inl (upd (upd (upd rr b (iI ((zDg nn f (i + 1)).1))) (b + 1) (iI ((zDg nn f (((zDg nn f (i + 1)).2) + 1)).1))) (b + 2) (iI ((zDg nn f (((zDg nn f (((zDg nn f (i + 1)).2) + 1)).2) + 1)).1)))))] H := hP
              have hD : va_D (wA [(mm, .inr (4, [.int (iI fa), .ref tA, .int (iI ((nn : Int))), .int (iI pl), .int (iI yr), .int (iI mn), .int (iI dy), .int (iI ((i : Int))), .ref oA, .ref sA, .ref eA, .ref gA, .ref cA, .ref rA, .ref fA])), (tA, .inl (cB, 400, .inl f)), (rA, .inl (cI, 8, .inl rr))]) [(mm, .inr (4, [.int (iI fa), .ref tA, .int (iI ((nn : Int))), .int (iI pl), .int (iI yr), .int (iI mn), .int (iI dy), .int (iI ((((zDg nn f (((zDg nn f (((zDg nn f (i + 1)).2) + 1)).2) + 1)).2 : Nat) : Int))), .ref oA, .ref sA, .ref eA, .ref gA, .ref cA, .ref rA, .ref fA])), (tA, .inl (cB, 400, .inl f)), (rA, .inl (cI, 8, .inl (upd (upd (upd rr b (iI ((zDg nn f (i + 1)).1))) (b + 1) (iI ((zDg nn f (((zDg nn f (i + 1)).2) + 1)).1))) (b + 2) (iI ((zDg nn f (((zDg nn f (((zDg nn f (i + 1)).2) + 1)).2) + 1)).1)))))] := hD
              refine lv_aload_n hx hb d_Ref_rule_60 rfl (lv_at hl 0 rfl) ?_
              refine lv_bipush (v := iI 47) hx hb d_Ref_rule_61 (by decide) ?_
              by_cases a7 : zPk nn f ((zDg nn f (((zDg nn f (((zDg nn f (i + 1)).2) + 1)).2) + 1)).2) = 47
              · skip
                have gi7 : (zDg nn f (((zDg nn f (((zDg nn f (i + 1)).2) + 1)).2) + 1)).2 < nn := zPk_lt (f := f) (by omega)
                have hT := hT.trans (rT7_y a7)
                refine m_callV (rest := []) (q0 := 0) hx hb (hml.trans hl.1.symm) hown hk hK k_Ref_99 (ct_Ref_expect l D tys mm tA oA sA eA gA cA rA fA fa nn pl yr mn dy ((zDg nn f (((zDg nn f (((zDg nn f (i + 1)).2) + 1)).2) + 1)).2) cB f 47 hty (by omega) (by omega) (by omega) (by omega) (by omega)) hP hD hS [0, 1] rfl rfl rfl rfl rfl rfl rfl ⟨rfl, rfl⟩ ⟨by decide, by decide, by decide, by decide⟩ (Nat.le_of_ble_eq_true rfl) d_Ref_rule_63 (fun H locs hP hD hS => ?_)
                have hP : va_P D vwCl [(mm, .inr (4, [.int (iI fa), .ref tA, .int (iI ((nn : Int))), .int (iI pl), .int (iI yr), .int (iI mn), .int (iI dy), .int (iI (((((zDg nn f (((zDg nn f (((zDg nn f (i + 1)).2) + 1)).2) + 1)).2) + 1 : Nat) : Int))), .ref oA, .ref sA, .ref eA, .ref gA, .ref cA, .ref rA, .ref fA])), (tA, .inl (cB, 400, .inl f)), (rA, .inl (cI, 8, .inl (upd (upd (upd rr b (iI ((zDg nn f (i + 1)).1))) (b + 1) (iI ((zDg nn f (((zDg nn f (i + 1)).2) + 1)).1))) (b + 2) (iI ((zDg nn f (((zDg nn f (((zDg nn f (i + 1)).2) + 1)).2) + 1)).1)))))] H := hP
                have hD : va_D (wA [(mm, .inr (4, [.int (iI fa), .ref tA, .int (iI ((nn : Int))), .int (iI pl), .int (iI yr), .int (iI mn), .int (iI dy), .int (iI ((i : Int))), .ref oA, .ref sA, .ref eA, .ref gA, .ref cA, .ref rA, .ref fA])), (tA, .inl (cB, 400, .inl f)), (rA, .inl (cI, 8, .inl rr))]) [(mm, .inr (4, [.int (iI fa), .ref tA, .int (iI ((nn : Int))), .int (iI pl), .int (iI yr), .int (iI mn), .int (iI dy), .int (iI (((((zDg nn f (((zDg nn f (((zDg nn f (i + 1)).2) + 1)).2) + 1)).2) + 1 : Nat) : Int))), .ref oA, .ref sA, .ref eA, .ref gA, .ref cA, .ref rA, .ref fA])), (tA, .inl (cB, 400, .inl f)), (rA, .inl (cI, 8, .inl (upd (upd (upd rr b (iI ((zDg nn f (i + 1)).1))) (b + 1) (iI ((zDg nn f (((zDg nn f (i + 1)).2) + 1)).1))) (b + 2) (iI ((zDg nn f (((zDg nn f (((zDg nn f (i + 1)).2) + 1)).2) + 1)).1)))))] := hD
                refine lv_aload_n hx hb d_Ref_rule_66 rfl (lv_at hl 0 rfl) ?_
                refine g_get hx hb hk hown hK hP 0 rfl f_Ref_37 rfl d_Ref_rule_67 ?_
                refine lv_iload_n hx hb d_Ref_rule_70 rfl (lv_at hl 1 rfl) ?_
                refine lv_iconst (v := iI 3) hx hb d_Ref_rule_71 rfl ?_
                refine ri_iadd hx hb d_Ref_rule_72 ?_
                refine ri_i (show ((b : Int)) + 3 = ((b + 3 : Nat) : Int) from by omega) ?_
                refine lv_aload_n hx hb d_Ref_rule_73 rfl (lv_at hl 0 rfl) ?_
                refine lv_iconst (v := iI 0) hx hb d_Ref_rule_74 rfl ?_
                refine lv_sipush (v := iI 1439) hx hb d_Ref_rule_75 (by decide) ?_
                have gD8 := zDg_b (n := nn) (f := f) (i := ((zDg nn f (((zDg nn f (((zDg nn f (i + 1)).2) + 1)).2) + 1)).2) + 1) (by omega)
                by_cases b8 : ((zDg nn f (((zDg nn f (((zDg nn f (((zDg nn f (i + 1)).2) + 1)).2) + 1)).2) + 1)).1 < 0 ∨ 1439 < (zDg nn f (((zDg nn f (((zDg nn f (((zDg nn f (i + 1)).2) + 1)).2) + 1)).2) + 1)).1)
                · skip
                  have hT := hT.trans (rT8_n b8)
                  have ePl := congrArg Prod.fst hT
                  simp only at ePl
                  exact xE_thr (xG_runV (rest := [.int (iI (((b + 3 : Nat) : Int))), .ref rA]) (q0 := 0) hx hb (hml.trans hl.1.symm) hown hk hK k_Ref_102 (xMet.toE (ct_Ref_ranged_x l D tys aS hoff mm tA oA sA eA gA cA rA fA fa nn pl yr mn dy (((zDg nn f (((zDg nn f (((zDg nn f (i + 1)).2) + 1)).2) + 1)).2) + 1) cB f 0 1439 hty (by omega) (by omega) (by omega) (by omega) (by omega) (by omega) (by omega)) (Pw := fun wq => wq = [(mm, .inr (4, [.int (iI fa), .ref tA, .int (iI ((nn : Int))), .int (iI ((((((zDg nn f (((zDg nn f (((zDg nn f (i + 1)).2) + 1)).2) + 1)).2) + 1) : Nat) : Int))), .int (iI yr), .int (iI mn), .int (iI dy), .int (iI ((((zDg nn f (((zDg nn f (((zDg nn f (((zDg nn f (i + 1)).2) + 1)).2) + 1)).2) + 1)).2 : Nat) : Int))), .ref oA, .ref sA, .ref eA, .ref gA, .ref cA, .ref rA, .ref fA])), (tA, .inl (cB, 400, .inl f))]) rfl rfl) (w_subP (is := [0, 1]) hP rfl) (x_subD (is := [0, 1]) hD hAS rfl rfl) (x_zH hZ hS hAS) rfl rfl rfl rfl ⟨by decide, by decide, by decide, by decide⟩ (Nat.le_of_ble_eq_true rfl) d_Ref_rule_78) hE hlk hP hD hS [0, 1] rfl rfl (by rintro _ rfl; exact ⟨_, _, And.symm ⟨by rw [ePl]; rfl, by omega⟩⟩)
                · skip
                  have hT := hT.trans (rT8_y b8)
                  refine m_callV (rest := [.int (iI (((b + 3 : Nat) : Int))), .ref rA]) (q0 := 0) hx hb (hml.trans hl.1.symm) hown hk hK k_Ref_102 (ct_Ref_ranged l D tys mm tA oA sA eA gA cA rA fA fa nn pl yr mn dy (((zDg nn f (((zDg nn f (((zDg nn f (i + 1)).2) + 1)).2) + 1)).2) + 1) cB f 0 1439 hty (by omega) (by omega) (by omega) (by omega) (by omega) (by omega) (by omega)) hP hD hS [0, 1] rfl rfl rfl rfl rfl rfl rfl ⟨rfl, rfl⟩ ⟨by decide, by decide, by decide, by decide⟩ (Nat.le_of_ble_eq_true rfl) d_Ref_rule_78 (fun H locs hP hD hS => ?_)
                  have hP : va_P D vwCl [(mm, .inr (4, [.int (iI fa), .ref tA, .int (iI ((nn : Int))), .int (iI pl), .int (iI yr), .int (iI mn), .int (iI dy), .int (iI ((((zDg nn f (((zDg nn f (((zDg nn f (((zDg nn f (i + 1)).2) + 1)).2) + 1)).2) + 1)).2 : Nat) : Int))), .ref oA, .ref sA, .ref eA, .ref gA, .ref cA, .ref rA, .ref fA])), (tA, .inl (cB, 400, .inl f)), (rA, .inl (cI, 8, .inl (upd (upd (upd rr b (iI ((zDg nn f (i + 1)).1))) (b + 1) (iI ((zDg nn f (((zDg nn f (i + 1)).2) + 1)).1))) (b + 2) (iI ((zDg nn f (((zDg nn f (((zDg nn f (i + 1)).2) + 1)).2) + 1)).1)))))] H := hP
                  have hD : va_D (wA [(mm, .inr (4, [.int (iI fa), .ref tA, .int (iI ((nn : Int))), .int (iI pl), .int (iI yr), .int (iI mn), .int (iI dy), .int (iI ((i : Int))), .ref oA, .ref sA, .ref eA, .ref gA, .ref cA, .ref rA, .ref fA])), (tA, .inl (cB, 400, .inl f)), (rA, .inl (cI, 8, .inl rr))]) [(mm, .inr (4, [.int (iI fa), .ref tA, .int (iI ((nn : Int))), .int (iI pl), .int (iI yr), .int (iI mn), .int (iI dy), .int (iI ((((zDg nn f (((zDg nn f (((zDg nn f (((zDg nn f (i + 1)).2) + 1)).2) + 1)).2) + 1)).2 : Nat) : Int))), .ref oA, .ref sA, .ref eA, .ref gA, .ref cA, .ref rA, .ref fA])), (tA, .inl (cB, 400, .inl f)), (rA, .inl (cI, 8, .inl (upd (upd (upd rr b (iI ((zDg nn f (i + 1)).1))) (b + 1) (iI ((zDg nn f (((zDg nn f (i + 1)).2) + 1)).1))) (b + 2) (iI ((zDg nn f (((zDg nn f (((zDg nn f (i + 1)).2) + 1)).2) + 1)).1)))))] := hD
                  refine g_iast (i := b + 3) hx hb hK hP hD hS 2 1 rfl hI d_Ref_rule_81 (fun H locs hP hD hS => ?_) (by omega) (by decide)
                  have hP : va_P D vwCl [(mm, .inr (4, [.int (iI fa), .ref tA, .int (iI ((nn : Int))), .int (iI pl), .int (iI yr), .int (iI mn), .int (iI dy), .int (iI ((((zDg nn f (((zDg nn f (((zDg nn f (((zDg nn f (i + 1)).2) + 1)).2) + 1)).2) + 1)).2 : Nat) : Int))), .ref oA, .ref sA, .ref eA, .ref gA, .ref cA, .ref rA, .ref fA])), (tA, .inl (cB, 400, .inl f)), (rA, .inl (cI, 8, .inl (upd (upd (upd (upd rr b (iI ((zDg nn f (i + 1)).1))) (b + 1) (iI ((zDg nn f (((zDg nn f (i + 1)).2) + 1)).1))) (b + 2) (iI ((zDg nn f (((zDg nn f (((zDg nn f (i + 1)).2) + 1)).2) + 1)).1))) (b + 3) (iI ((zDg nn f (((zDg nn f (((zDg nn f (((zDg nn f (i + 1)).2) + 1)).2) + 1)).2) + 1)).1)))))] H := hP
                  have hD : va_D (wA [(mm, .inr (4, [.int (iI fa), .ref tA, .int (iI ((nn : Int))), .int (iI pl), .int (iI yr), .int (iI mn), .int (iI dy), .int (iI ((i : Int))), .ref oA, .ref sA, .ref eA, .ref gA, .ref cA, .ref rA, .ref fA])), (tA, .inl (cB, 400, .inl f)), (rA, .inl (cI, 8, .inl rr))]) [(mm, .inr (4, [.int (iI fa), .ref tA, .int (iI ((nn : Int))), .int (iI pl), .int (iI yr), .int (iI mn), .int (iI dy), .int (iI ((((zDg nn f (((zDg nn f (((zDg nn f (((zDg nn f (i + 1)).2) + 1)).2) + 1)).2) + 1)).2 : Nat) : Int))), .ref oA, .ref sA, .ref eA, .ref gA, .ref cA, .ref rA, .ref fA])), (tA, .inl (cB, 400, .inl f)), (rA, .inl (cI, 8, .inl (upd (upd (upd (upd rr b (iI ((zDg nn f (i + 1)).1))) (b + 1) (iI ((zDg nn f (((zDg nn f (i + 1)).2) + 1)).1))) (b + 2) (iI ((zDg nn f (((zDg nn f (((zDg nn f (i + 1)).2) + 1)).2) + 1)).1))) (b + 3) (iI ((zDg nn f (((zDg nn f (((zDg nn f (((zDg nn f (i + 1)).2) + 1)).2) + 1)).2) + 1)).1)))))] := hD
                  exact absurd (show false = true from (congrArg Prod.snd hT).symm.trans gq) (by decide)
              · skip
                have hT := hT.trans (rT7_n a7)
                have ePl := congrArg Prod.fst hT
                simp only at ePl
                exact xE_thr (xG_runV (rest := []) (q0 := 0) hx hb (hml.trans hl.1.symm) hown hk hK k_Ref_99 (xMet.toE (ct_Ref_expect_x l D tys aS hoff mm tA oA sA eA gA cA rA fA fa nn pl yr mn dy ((zDg nn f (((zDg nn f (((zDg nn f (i + 1)).2) + 1)).2) + 1)).2) cB f 47 hty (by omega) (by omega) (by omega) (by omega) (by omega)) (Pw := fun wq => wq = [(mm, .inr (4, [.int (iI fa), .ref tA, .int (iI ((nn : Int))), .int (iI (((((zDg nn f (((zDg nn f (((zDg nn f (i + 1)).2) + 1)).2) + 1)).2) : Nat) : Int))), .int (iI yr), .int (iI mn), .int (iI dy), .int (iI (((((zDg nn f (((zDg nn f (((zDg nn f (i + 1)).2) + 1)).2) + 1)).2) : Nat) : Int))), .ref oA, .ref sA, .ref eA, .ref gA, .ref cA, .ref rA, .ref fA])), (tA, .inl (cB, 400, .inl f))]) rfl rfl) (w_subP (is := [0, 1]) hP rfl) (x_subD (is := [0, 1]) hD hAS rfl rfl) (x_zH hZ hS hAS) rfl rfl rfl rfl ⟨by decide, by decide, by decide, by decide⟩ (Nat.le_of_ble_eq_true rfl) d_Ref_rule_63) hE hlk hP hD hS [0, 1] rfl rfl (by rintro _ rfl; exact ⟨_, _, And.symm ⟨by rw [ePl]; rfl, by omega⟩⟩)
          · skip
            have hT := hT.trans (rT5_n a5)
            have ePl := congrArg Prod.fst hT
            simp only at ePl
            exact xE_thr (xG_runV (rest := []) (q0 := 0) hx hb (hml.trans hl.1.symm) hown hk hK k_Ref_99 (xMet.toE (ct_Ref_expect_x l D tys aS hoff mm tA oA sA eA gA cA rA fA fa nn pl yr mn dy ((zDg nn f (((zDg nn f (i + 1)).2) + 1)).2) cB f 46 hty (by omega) (by omega) (by omega) (by omega) (by omega)) (Pw := fun wq => wq = [(mm, .inr (4, [.int (iI fa), .ref tA, .int (iI ((nn : Int))), .int (iI (((((zDg nn f (((zDg nn f (i + 1)).2) + 1)).2) : Nat) : Int))), .int (iI yr), .int (iI mn), .int (iI dy), .int (iI (((((zDg nn f (((zDg nn f (i + 1)).2) + 1)).2) : Nat) : Int))), .ref oA, .ref sA, .ref eA, .ref gA, .ref cA, .ref rA, .ref fA])), (tA, .inl (cB, 400, .inl f))]) rfl rfl) (w_subP (is := [0, 1]) hP rfl) (x_subD (is := [0, 1]) hD hAS rfl rfl) (x_zH hZ hS hAS) rfl rfl rfl rfl ⟨by decide, by decide, by decide, by decide⟩ (Nat.le_of_ble_eq_true rfl) d_Ref_rule_42) hE hlk hP hD hS [0, 1] rfl rfl (by rintro _ rfl; exact ⟨_, _, And.symm ⟨by rw [ePl]; rfl, by omega⟩⟩)
      · skip
        have hT := hT.trans (rT3_n a3)
        have ePl := congrArg Prod.fst hT
        simp only at ePl
        exact xE_thr (xG_runV (rest := []) (q0 := 0) hx hb (hml.trans hl.1.symm) hown hk hK k_Ref_99 (xMet.toE (ct_Ref_expect_x l D tys aS hoff mm tA oA sA eA gA cA rA fA fa nn pl yr mn dy ((zDg nn f (i + 1)).2) cB f 46 hty (by omega) (by omega) (by omega) (by omega) (by omega)) (Pw := fun wq => wq = [(mm, .inr (4, [.int (iI fa), .ref tA, .int (iI ((nn : Int))), .int (iI (((((zDg nn f (i + 1)).2) : Nat) : Int))), .int (iI yr), .int (iI mn), .int (iI dy), .int (iI (((((zDg nn f (i + 1)).2) : Nat) : Int))), .ref oA, .ref sA, .ref eA, .ref gA, .ref cA, .ref rA, .ref fA])), (tA, .inl (cB, 400, .inl f))]) rfl rfl) (w_subP (is := [0, 1]) hP rfl) (x_subD (is := [0, 1]) hD hAS rfl rfl) (x_zH hZ hS hAS) rfl rfl rfl rfl ⟨by decide, by decide, by decide, by decide⟩ (Nat.le_of_ble_eq_true rfl) d_Ref_rule_22) hE hlk hP hD hS [0, 1] rfl rfl (by rintro _ rfl; exact ⟨_, _, And.symm ⟨by rw [ePl]; rfl, by omega⟩⟩)
  · skip
    have hT := hT.trans (rT1_n a1)
    have ePl := congrArg Prod.fst hT
    simp only at ePl
    exact xE_thr (xG_runV (rest := []) (q0 := 0) hx hb (hml.trans hl.1.symm) hown hk hK k_Ref_99 (xMet.toE (ct_Ref_expect_x l D tys aS hoff mm tA oA sA eA gA cA rA fA fa nn pl yr mn dy i cB f 77 hty (by omega) (by omega) (by omega) (by omega) (by omega)) (Pw := fun wq => wq = [(mm, .inr (4, [.int (iI fa), .ref tA, .int (iI ((nn : Int))), .int (iI ((i : Int))), .int (iI yr), .int (iI mn), .int (iI dy), .int (iI ((i : Int))), .ref oA, .ref sA, .ref eA, .ref gA, .ref cA, .ref rA, .ref fA])), (tA, .inl (cB, 400, .inl f))]) rfl rfl) (w_subP (is := [0, 1]) hP rfl) (x_subD (is := [0, 1]) hD hAS rfl rfl) (x_zH hZ hS hAS) rfl rfl rfl rfl ⟨by decide, by decide, by decide, by decide⟩ (Nat.le_of_ble_eq_true rfl) d_Ref_rule_3) hE hlk hP hD hS [0, 1] rfl rfl (by rintro _ rfl; exact ⟨_, _, And.symm ⟨by rw [ePl]; rfl, by omega⟩⟩)
