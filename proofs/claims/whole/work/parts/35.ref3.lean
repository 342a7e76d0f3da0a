/-! Contracts: the reference's find, and the calls that read or feed. By program (wip/whole/m_ref3.py). -/
abbrev rm_Ref_find : Room := { frames := 2, cells := 0, slots := 0, locals := 54 }
set_option maxHeartbeats 4000000 in
set_option maxRecDepth 100000 in
theorem ct_Ref_find (l : Launch) (D : va_G) (tys : List (ClassId × FieldType)) (mm : Nat) (tA : Nat) (oA : Nat) (sA : Nat) (eA : Nat) (gA : Nat) (cA : Nat) (rA : Nat) (fA : Nat) (fa : Int) (nn : Nat) (pl : Int) (yr : Int) (mn : Int) (dy : Int) (i : Nat) (cI : ClassId) (cJ : ClassId) (cG : ClassId) (cJJ : ClassId) (cGG : ClassId) (oI : Nat → Int) (sI : Nat → Int) (cN : Nat → Nat) (eR : Nat → Nat) (gR : Nat → Nat) (zi : Nat) (eF : Nat → Int) (gF : Nat → Bool) (fF : Nat → Int64) (t : Int) (hI : tys[1]? = some (cI, .int)) (hJ : tys[2]? = some (cJ, .long)) (hG : tys[3]? = some (cG, .boolean)) (hJJ : tys[5]? = some (cJJ, .array .long)) (hGG : tys[6]? = some (cGG, .array .boolean)) (gz : zi < 8) (gc : cN zi ≤ 660) (gE : ∀ k, k < 660 → -1000000000000000 ≤ eF k ∧ eF k ≤ 1000000000000000) (hs : evS (cN zi) eF gF) (go1 : -840 ≤ oI zi) (go2 : oI zi ≤ 840) (gs1 : 0 ≤ sI zi) (gs2 : sI zi ≤ 120) (gt1 : 0 ≤ t) (gt2 : t ≤ 10413791999999) : mMet l y_Ref_find c_Ref_find 9 (some .int) rm_Ref_find D tys [.ref mm, .int (iI ((zi : Int))), .long (lL t)] [(mm, .inr (4, [.int (iI fa), .ref tA, .int (iI ((nn : Int))), .int (iI pl), .int (iI yr), .int (iI mn), .int (iI dy), .int (iI ((i : Int))), .ref oA, .ref sA, .ref eA, .ref gA, .ref cA, .ref rA, .ref fA])), (oA, .inl (cI, 8, .inl (fun j => iI (oI j)))), (sA, .inl (cI, 8, .inl (fun j => iI (sI j)))), (eA, .inl (cJJ, 8, .inr (.inr (.inr (.inr (fun k => some (eR k))))))), (gA, .inl (cGG, 8, .inr (.inr (.inr (.inr (fun k => some (gR k))))))), (cA, .inl (cI, 8, .inl (fun j => iI (cN j : Int)))), (eR zi, .inl (cJ, 660, .inr (.inl (fun j => lL (eF j))))), (gR zi, .inl (cG, 660, .inl (fun j => iI (bI (gF j))))), (fA, .inl (cJ, 2, .inr (.inl fF)))] (some (.int (iI (bI (rP1 (oI zi) (sI zi) (cN zi) eF gF t) + bI (rP2 (oI zi) (sI zi) (cN zi) eF gF t))))) [(mm, .inr (4, [.int (iI fa), .ref tA, .int (iI ((nn : Int))), .int (iI pl), .int (iI yr), .int (iI mn), .int (iI dy), .int (iI ((i : Int))), .ref oA, .ref sA, .ref eA, .ref gA, .ref cA, .ref rA, .ref fA])), (oA, .inl (cI, 8, .inl (fun j => iI (oI j)))), (sA, .inl (cI, 8, .inl (fun j => iI (sI j)))), (eA, .inl (cJJ, 8, .inr (.inr (.inr (.inr (fun k => some (eR k))))))), (gA, .inl (cGG, 8, .inr (.inr (.inr (.inr (fun k => some (gR k))))))), (cA, .inl (cI, 8, .inl (fun j => iI (cN j : Int)))), (eR zi, .inl (cJ, 660, .inr (.inl (fun j => lL (eF j))))), (gR zi, .inl (cG, 660, .inl (fun j => iI (bI (gF j))))), (fA, .inl (cJ, 2, .inr (.inl (rFnd (rP1 (oI zi) (sI zi) (cN zi) eF gF t) (rP2 (oI zi) (sI zi) (cN zi) eF gF t) (rfA (oI zi) (sI zi) t) (rfB (oI zi) t) fF))))] := by
  refine mMet_of (by decide) (Nat.le_of_ble_eq_true rfl) ?_
  intro p e s m below meth c hx hb hr hown hlk hml hk hK hP hD hS ls hl
  have hl : lv_has ls 9 [(0, .ref mm), (1, .int (iI ((zi : Int)))), (2, .long (lL t))] := hl
  have gAA : -100000000000000 ≤ rfA (oI zi) (sI zi) t ∧ rfA (oI zi) (sI zi) t ≤ 100000000000000 := by rw [rfA_is]; omega
  have gBB : -100000000000000 ≤ rfB (oI zi) t ∧ rfB (oI zi) t ≤ 100000000000000 := by rw [rfB_is]; omega
  refine lv_iconst (v := iI 0) hx hb d_Ref_find_0 rfl ?_
  refine lv_istore (lv' := [(4, .int (iI 0)), (0, .ref mm), (1, .int (iI ((zi : Int)))), (2, .long (lL t))]) hx hb d_Ref_find_1 hl (by decide) rfl (fun ls hl => ?_)
  refine lv_lload_n hx hb d_Ref_find_3 rfl (lv_at hl 3 rfl) ?_
  refine lv_ldc2 (v := lL 60000) hx hb hown (hk _ kc_Ref_122 _) d_Ref_find_4 ?_
  refine lv_aload_n hx hb d_Ref_find_7 rfl (lv_at hl 1 rfl) ?_
  refine g_get hx hb hk hown hK hP 0 rfl f_Ref_17 rfl d_Ref_find_8 ?_
  refine lv_iload_n hx hb d_Ref_find_11 rfl (lv_at hl 2 rfl) ?_
  refine g_iald (i := zi) hx hb hK hP 1 1 rfl hI d_Ref_find_12 ?_
  refine lv_aload_n hx hb d_Ref_find_13 rfl (lv_at hl 1 rfl) ?_
  refine g_get hx hb hk hown hK hP 0 rfl f_Ref_21 rfl d_Ref_find_14 ?_
  refine lv_iload_n hx hb d_Ref_find_17 rfl (lv_at hl 2 rfl) ?_
  refine g_iald (i := zi) hx hb hK hP 2 1 rfl hI d_Ref_find_18 ?_
  refine ri_iadd hx hb d_Ref_find_19 ?_
  refine ri_i2l hx hb d_Ref_find_20 ?_
  refine ri_lmul hx hb d_Ref_find_21 ?_
  refine ri_lsub hx hb d_Ref_find_22 ?_
  refine ri_l (show t - (60000 * ((oI zi) + (sI zi))) = rfA (oI zi) (sI zi) t from rfl) ?_
  refine lv_lstore (lv' := [(5, .long (lL (rfA (oI zi) (sI zi) t))), (4, .int (iI 0)), (0, .ref mm), (1, .int (iI ((zi : Int)))), (2, .long (lL t))]) hx hb d_Ref_find_23 hl (by decide) rfl (fun ls hl => ?_)
  refine lv_lload_n hx hb d_Ref_find_25 rfl (lv_at hl 4 rfl) ?_
  refine lv_ldc2 (v := lL 60000) hx hb hown (hk _ kc_Ref_122 _) d_Ref_find_26 ?_
  refine lv_aload_n hx hb d_Ref_find_29 rfl (lv_at hl 2 rfl) ?_
  refine g_get hx hb hk hown hK hP 0 rfl f_Ref_17 rfl d_Ref_find_30 ?_
  refine lv_iload_n hx hb d_Ref_find_33 rfl (lv_at hl 3 rfl) ?_
  refine g_iald (i := zi) hx hb hK hP 1 1 rfl hI d_Ref_find_34 ?_
  refine ri_i2l hx hb d_Ref_find_35 ?_
  refine ri_lmul hx hb d_Ref_find_36 ?_
  refine ri_lsub hx hb d_Ref_find_37 ?_
  refine ri_l (show t - (60000 * (oI zi)) = rfB (oI zi) t from rfl) ?_
  refine lv_lstore (lv' := [(7, .long (lL (rfB (oI zi) t))), (5, .long (lL (rfA (oI zi) (sI zi) t))), (4, .int (iI 0)), (0, .ref mm), (1, .int (iI ((zi : Int)))), (2, .long (lL t))]) hx hb d_Ref_find_38 hl (by decide) rfl (fun ls hl => ?_)
  refine lv_aload_n hx hb d_Ref_find_40 rfl (lv_at hl 3 rfl) ?_
  refine lv_iload_n hx hb d_Ref_find_41 rfl (lv_at hl 4 rfl) ?_
  refine lv_lload hx hb d_Ref_find_42 (lv_at hl 1 rfl) ?_
  refine p_callV (rest := []) (q0 := 0) hx hb (hml.trans hl.1.symm) hown hk hK k_Ref_144 (ct_Ref_localAt l D tys mm tA oA sA eA gA cA rA fA fa nn pl yr mn dy i cI cJ cG cJJ cGG oI sI cN eR gR zi eF gF (rfA (oI zi) (sI zi) t) hI hJ hG hJJ hGG gz gc gE hs go1 go2 gs1 gs2 (by omega) (by omega)) (w_subP (is := [0, 1, 2, 3, 4, 5, 6, 7]) hP rfl) (w_subD (is := [0, 1, 2, 3, 4, 5, 6, 7]) hD rfl rfl) rfl rfl rfl rfl ⟨rfl, rfl⟩ ⟨by decide, by decide, by decide, by decide⟩ (Nat.le_of_ble_eq_true rfl) d_Ref_find_44 ?_
  have gm1 := rMin_bd (ev := evK eF (rfA (oI zi) (sI zi) t) (cN zi)) (G := gF) go1 go2 gs1 gs2
  refine lv_lload_n hx hb d_Ref_find_47 rfl (lv_at hl 5 rfl) ?_
  refine ri_lcmp_ne (tgt := 64) hx hb d_Ref_find_48 d_Ref_find_49 (by decide) (fun h48 => ?_) (fun h48 => ?_)
  · refine lv_lload hx hb d_Ref_find_64 (lv_at hl 0 rfl) ?_
    refine lv_lload hx hb d_Ref_find_66 (lv_at hl 1 rfl) ?_
    refine ri_lcmp_eq (tgt := 96) hx hb d_Ref_find_68 d_Ref_find_69 (by decide) (fun h68 => ?_) (fun h68 => ?_)
    · refine lv_iload hx hb d_Ref_find_96 (lv_at hl 2 rfl) ?_
      have e1 : rP1 (oI zi) (sI zi) (cN zi) eF gF t = false := rP1_f (by omega)
      have e2 : rP2 (oI zi) (sI zi) (cN zi) eF gF t = false := rP2_f (by omega)
      exact m_iret hx hb hr hlk hP hS d_Ref_find_98 (by rw [e1, e2]; rfl) (by rw [e1, e2]; rfl)
    · refine lv_aload_n hx hb d_Ref_find_72 rfl (lv_at hl 3 rfl) ?_
      refine lv_iload_n hx hb d_Ref_find_73 rfl (lv_at hl 4 rfl) ?_
      refine lv_lload hx hb d_Ref_find_74 (lv_at hl 0 rfl) ?_
      refine p_callV (rest := []) (q0 := 0) hx hb (hml.trans hl.1.symm) hown hk hK k_Ref_144 (ct_Ref_localAt l D tys mm tA oA sA eA gA cA rA fA fa nn pl yr mn dy i cI cJ cG cJJ cGG oI sI cN eR gR zi eF gF (rfB (oI zi) t) hI hJ hG hJJ hGG gz gc gE hs go1 go2 gs1 gs2 (by omega) (by omega)) (w_subP (is := [0, 1, 2, 3, 4, 5, 6, 7]) hP rfl) (w_subD (is := [0, 1, 2, 3, 4, 5, 6, 7]) hD rfl rfl) rfl rfl rfl rfl ⟨rfl, rfl⟩ ⟨by decide, by decide, by decide, by decide⟩ (Nat.le_of_ble_eq_true rfl) d_Ref_find_76 ?_
      have gm2 := rMin_bd (ev := evK eF (rfB (oI zi) t) (cN zi)) (G := gF) go1 go2 gs1 gs2
      refine lv_lload_n hx hb d_Ref_find_79 rfl (lv_at hl 5 rfl) ?_
      refine ri_lcmp_ne (tgt := 96) hx hb d_Ref_find_80 d_Ref_find_81 (by decide) (fun h80 => ?_) (fun h80 => ?_)
      · refine lv_iload hx hb d_Ref_find_96 (lv_at hl 2 rfl) ?_
        have e1 : rP1 (oI zi) (sI zi) (cN zi) eF gF t = false := rP1_f (by omega)
        have e2 : rP2 (oI zi) (sI zi) (cN zi) eF gF t = false := rP2_f (by omega)
        exact m_iret hx hb hr hlk hP hS d_Ref_find_98 (by rw [e1, e2]; rfl) (by rw [e1, e2]; rfl)
      · refine lv_aload_n hx hb d_Ref_find_84 rfl (lv_at hl 3 rfl) ?_
        refine g_get hx hb hk hown hK hP 0 rfl f_Ref_40 rfl d_Ref_find_85 ?_
        refine lv_iload hx hb d_Ref_find_88 (lv_at hl 2 rfl) ?_
        refine ri_i (show 0 = (0 : Int) from rfl) ?_
        refine lv_lload hx hb d_Ref_find_90 (lv_at hl 0 rfl) ?_
        refine g_last (i := 0) hx hb hK hP hD hS 8 2 rfl hJ d_Ref_find_92 (fun H locs hP hD hS => ?_) (by omega) (by decide)
        have hP : va_P D vwCl [(mm, .inr (4, [.int (iI fa), .ref tA, .int (iI ((nn : Int))), .int (iI pl), .int (iI yr), .int (iI mn), .int (iI dy), .int (iI ((i : Int))), .ref oA, .ref sA, .ref eA, .ref gA, .ref cA, .ref rA, .ref fA])), (oA, .inl (cI, 8, .inl (fun j => iI (oI j)))), (sA, .inl (cI, 8, .inl (fun j => iI (sI j)))), (eA, .inl (cJJ, 8, .inr (.inr (.inr (.inr (fun k => some (eR k))))))), (gA, .inl (cGG, 8, .inr (.inr (.inr (.inr (fun k => some (gR k))))))), (cA, .inl (cI, 8, .inl (fun j => iI (cN j : Int)))), (eR zi, .inl (cJ, 660, .inr (.inl (fun j => lL (eF j))))), (gR zi, .inl (cG, 660, .inl (fun j => iI (bI (gF j))))), (fA, .inl (cJ, 2, .inr (.inl (vp_updL fF 0 (lL (rfB (oI zi) t))))))] H := hP
        have hD : va_D (wA [(mm, .inr (4, [.int (iI fa), .ref tA, .int (iI ((nn : Int))), .int (iI pl), .int (iI yr), .int (iI mn), .int (iI dy), .int (iI ((i : Int))), .ref oA, .ref sA, .ref eA, .ref gA, .ref cA, .ref rA, .ref fA])), (oA, .inl (cI, 8, .inl (fun j => iI (oI j)))), (sA, .inl (cI, 8, .inl (fun j => iI (sI j)))), (eA, .inl (cJJ, 8, .inr (.inr (.inr (.inr (fun k => some (eR k))))))), (gA, .inl (cGG, 8, .inr (.inr (.inr (.inr (fun k => some (gR k))))))), (cA, .inl (cI, 8, .inl (fun j => iI (cN j : Int)))), (eR zi, .inl (cJ, 660, .inr (.inl (fun j => lL (eF j))))), (gR zi, .inl (cG, 660, .inl (fun j => iI (bI (gF j))))), (fA, .inl (cJ, 2, .inr (.inl fF)))]) [(mm, .inr (4, [.int (iI fa), .ref tA, .int (iI ((nn : Int))), .int (iI pl), .int (iI yr), .int (iI mn), .int (iI dy), .int (iI ((i : Int))), .ref oA, .ref sA, .ref eA, .ref gA, .ref cA, .ref rA, .ref fA])), (oA, .inl (cI, 8, .inl (fun j => iI (oI j)))), (sA, .inl (cI, 8, .inl (fun j => iI (sI j)))), (eA, .inl (cJJ, 8, .inr (.inr (.inr (.inr (fun k => some (eR k))))))), (gA, .inl (cGG, 8, .inr (.inr (.inr (.inr (fun k => some (gR k))))))), (cA, .inl (cI, 8, .inl (fun j => iI (cN j : Int)))), (eR zi, .inl (cJ, 660, .inr (.inl (fun j => lL (eF j))))), (gR zi, .inl (cG, 660, .inl (fun j => iI (bI (gF j))))), (fA, .inl (cJ, 2, .inr (.inl (vp_updL fF 0 (lL (rfB (oI zi) t))))))] := hD
        refine lv_iinc (k := 2) (v := iI (0 + 1)) (lv' := [(4, .int (iI (0 + 1))), (7, .long (lL (rfB (oI zi) t))), (5, .long (lL (rfA (oI zi) (sI zi) t))), (0, .ref mm), (1, .int (iI ((zi : Int)))), (2, .long (lL t))]) hx hb d_Ref_find_93 hl rfl (iI_add _ _) (by decide) rfl (fun ls hl => ?_)
        refine lv_iload hx hb d_Ref_find_96 (lv_at hl 0 rfl) ?_
        have e1 : rP1 (oI zi) (sI zi) (cN zi) eF gF t = false := rP1_f (by omega)
        have e2 : rP2 (oI zi) (sI zi) (cN zi) eF gF t = true := rP2_t (by omega) (by omega)
        exact m_iret hx hb hr hlk hP hS d_Ref_find_98 (by rw [e1, e2]; rfl) (by rw [e1, e2]; rfl)
  · refine lv_aload_n hx hb d_Ref_find_52 rfl (lv_at hl 3 rfl) ?_
    refine g_get hx hb hk hown hK hP 0 rfl f_Ref_40 rfl d_Ref_find_53 ?_
    refine lv_iload hx hb d_Ref_find_56 (lv_at hl 2 rfl) ?_
    refine ri_i (show 0 = (0 : Int) from rfl) ?_
    refine lv_lload hx hb d_Ref_find_58 (lv_at hl 1 rfl) ?_
    refine g_last (i := 0) hx hb hK hP hD hS 8 2 rfl hJ d_Ref_find_60 (fun H locs hP hD hS => ?_) (by omega) (by decide)
    have hP : va_P D vwCl [(mm, .inr (4, [.int (iI fa), .ref tA, .int (iI ((nn : Int))), .int (iI pl), .int (iI yr), .int (iI mn), .int (iI dy), .int (iI ((i : Int))), .ref oA, .ref sA, .ref eA, .ref gA, .ref cA, .ref rA, .ref fA])), (oA, .inl (cI, 8, .inl (fun j => iI (oI j)))), (sA, .inl (cI, 8, .inl (fun j => iI (sI j)))), (eA, .inl (cJJ, 8, .inr (.inr (.inr (.inr (fun k => some (eR k))))))), (gA, .inl (cGG, 8, .inr (.inr (.inr (.inr (fun k => some (gR k))))))), (cA, .inl (cI, 8, .inl (fun j => iI (cN j : Int)))), (eR zi, .inl (cJ, 660, .inr (.inl (fun j => lL (eF j))))), (gR zi, .inl (cG, 660, .inl (fun j => iI (bI (gF j))))), (fA, .inl (cJ, 2, .inr (.inl (vp_updL fF 0 (lL (rfA (oI zi) (sI zi) t))))))] H := hP
    have hD : va_D (wA [(mm, .inr (4, [.int (iI fa), .ref tA, .int (iI ((nn : Int))), .int (iI pl), .int (iI yr), .int (iI mn), .int (iI dy), .int (iI ((i : Int))), .ref oA, .ref sA, .ref eA, .ref gA, .ref cA, .ref rA, .ref fA])), (oA, .inl (cI, 8, .inl (fun j => iI (oI j)))), (sA, .inl (cI, 8, .inl (fun j => iI (sI j)))), (eA, .inl (cJJ, 8, .inr (.inr (.inr (.inr (fun k => some (eR k))))))), (gA, .inl (cGG, 8, .inr (.inr (.inr (.inr (fun k => some (gR k))))))), (cA, .inl (cI, 8, .inl (fun j => iI (cN j : Int)))), (eR zi, .inl (cJ, 660, .inr (.inl (fun j => lL (eF j))))), (gR zi, .inl (cG, 660, .inl (fun j => iI (bI (gF j))))), (fA, .inl (cJ, 2, .inr (.inl fF)))]) [(mm, .inr (4, [.int (iI fa), .ref tA, .int (iI ((nn : Int))), .int (iI pl), .int (iI yr), .int (iI mn), .int (iI dy), .int (iI ((i : Int))), .ref oA, .ref sA, .ref eA, .ref gA, .ref cA, .ref rA, .ref fA])), (oA, .inl (cI, 8, .inl (fun j => iI (oI j)))), (sA, .inl (cI, 8, .inl (fun j => iI (sI j)))), (eA, .inl (cJJ, 8, .inr (.inr (.inr (.inr (fun k => some (eR k))))))), (gA, .inl (cGG, 8, .inr (.inr (.inr (.inr (fun k => some (gR k))))))), (cA, .inl (cI, 8, .inl (fun j => iI (cN j : Int)))), (eR zi, .inl (cJ, 660, .inr (.inl (fun j => lL (eF j))))), (gR zi, .inl (cG, 660, .inl (fun j => iI (bI (gF j))))), (fA, .inl (cJ, 2, .inr (.inl (vp_updL fF 0 (lL (rfA (oI zi) (sI zi) t))))))] := hD
    refine lv_iinc (k := 2) (v := iI (0 + 1)) (lv' := [(4, .int (iI (0 + 1))), (7, .long (lL (rfB (oI zi) t))), (5, .long (lL (rfA (oI zi) (sI zi) t))), (0, .ref mm), (1, .int (iI ((zi : Int)))), (2, .long (lL t))]) hx hb d_Ref_find_61 hl rfl (iI_add _ _) (by decide) rfl (fun ls hl => ?_)
    refine lv_lload hx hb d_Ref_find_64 (lv_at hl 1 rfl) ?_
    refine lv_lload hx hb d_Ref_find_66 (lv_at hl 2 rfl) ?_
    refine ri_lcmp_eq (tgt := 96) hx hb d_Ref_find_68 d_Ref_find_69 (by decide) (fun h68 => ?_) (fun h68 => ?_)
    · refine lv_iload hx hb d_Ref_find_96 (lv_at hl 0 rfl) ?_
      have e1 : rP1 (oI zi) (sI zi) (cN zi) eF gF t = true := rP1_t (by omega)
      have e2 : rP2 (oI zi) (sI zi) (cN zi) eF gF t = false := rP2_f (by omega)
      exact m_iret hx hb hr hlk hP hS d_Ref_find_98 (by rw [e1, e2]; rfl) (by rw [e1, e2]; rfl)
    · refine lv_aload_n hx hb d_Ref_find_72 rfl (lv_at hl 3 rfl) ?_
      refine lv_iload_n hx hb d_Ref_find_73 rfl (lv_at hl 4 rfl) ?_
      refine lv_lload hx hb d_Ref_find_74 (lv_at hl 1 rfl) ?_
      refine p_callV (rest := []) (q0 := 0) hx hb (hml.trans hl.1.symm) hown hk hK k_Ref_144 (ct_Ref_localAt l D tys mm tA oA sA eA gA cA rA fA fa nn pl yr mn dy i cI cJ cG cJJ cGG oI sI cN eR gR zi eF gF (rfB (oI zi) t) hI hJ hG hJJ hGG gz gc gE hs go1 go2 gs1 gs2 (by omega) (by omega)) (w_subP (is := [0, 1, 2, 3, 4, 5, 6, 7]) hP rfl) (w_subD (is := [0, 1, 2, 3, 4, 5, 6, 7]) hD rfl rfl) rfl rfl rfl rfl ⟨rfl, rfl⟩ ⟨by decide, by decide, by decide, by decide⟩ (Nat.le_of_ble_eq_true rfl) d_Ref_find_76 ?_
      have gm2 := rMin_bd (ev := evK eF (rfB (oI zi) t) (cN zi)) (G := gF) go1 go2 gs1 gs2
      refine lv_lload_n hx hb d_Ref_find_79 rfl (lv_at hl 5 rfl) ?_
      refine ri_lcmp_ne (tgt := 96) hx hb d_Ref_find_80 d_Ref_find_81 (by decide) (fun h80 => ?_) (fun h80 => ?_)
      · refine lv_iload hx hb d_Ref_find_96 (lv_at hl 0 rfl) ?_
        have e1 : rP1 (oI zi) (sI zi) (cN zi) eF gF t = true := rP1_t (by omega)
        have e2 : rP2 (oI zi) (sI zi) (cN zi) eF gF t = false := rP2_f (by omega)
        exact m_iret hx hb hr hlk hP hS d_Ref_find_98 (by rw [e1, e2]; rfl) (by rw [e1, e2]; rfl)
      · refine lv_aload_n hx hb d_Ref_find_84 rfl (lv_at hl 3 rfl) ?_
        refine g_get hx hb hk hown hK hP 0 rfl f_Ref_40 rfl d_Ref_find_85 ?_
        refine lv_iload hx hb d_Ref_find_88 (lv_at hl 0 rfl) ?_
        refine ri_i (show 0 + 1 = (1 : Int) from rfl) ?_
        refine lv_lload hx hb d_Ref_find_90 (lv_at hl 1 rfl) ?_
        refine g_last (i := 1) hx hb hK hP hD hS 8 2 rfl hJ d_Ref_find_92 (fun H locs hP hD hS => ?_) (by omega) (by decide)
        have hP : va_P D vwCl [(mm, .inr (4, [.int (iI fa), .ref tA, .int (iI ((nn : Int))), .int (iI pl), .int (iI yr), .int (iI mn), .int (iI dy), .int (iI ((i : Int))), .ref oA, .ref sA, .ref eA, .ref gA, .ref cA, .ref rA, .ref fA])), (oA, .inl (cI, 8, .inl (fun j => iI (oI j)))), (sA, .inl (cI, 8, .inl (fun j => iI (sI j)))), (eA, .inl (cJJ, 8, .inr (.inr (.inr (.inr (fun k => some (eR k))))))), (gA, .inl (cGG, 8, .inr (.inr (.inr (.inr (fun k => some (gR k))))))), (cA, .inl (cI, 8, .inl (fun j => iI (cN j : Int)))), (eR zi, .inl (cJ, 660, .inr (.inl (fun j => lL (eF j))))), (gR zi, .inl (cG, 660, .inl (fun j => iI (bI (gF j))))), (fA, .inl (cJ, 2, .inr (.inl (vp_updL (vp_updL fF 0 (lL (rfA (oI zi) (sI zi) t))) 1 (lL (rfB (oI zi) t))))))] H := hP
        have hD : va_D (wA [(mm, .inr (4, [.int (iI fa), .ref tA, .int (iI ((nn : Int))), .int (iI pl), .int (iI yr), .int (iI mn), .int (iI dy), .int (iI ((i : Int))), .ref oA, .ref sA, .ref eA, .ref gA, .ref cA, .ref rA, .ref fA])), (oA, .inl (cI, 8, .inl (fun j => iI (oI j)))), (sA, .inl (cI, 8, .inl (fun j => iI (sI j)))), (eA, .inl (cJJ, 8, .inr (.inr (.inr (.inr (fun k => some (eR k))))))), (gA, .inl (cGG, 8, .inr (.inr (.inr (.inr (fun k => some (gR k))))))), (cA, .inl (cI, 8, .inl (fun j => iI (cN j : Int)))), (eR zi, .inl (cJ, 660, .inr (.inl (fun j => lL (eF j))))), (gR zi, .inl (cG, 660, .inl (fun j => iI (bI (gF j))))), (fA, .inl (cJ, 2, .inr (.inl fF)))]) [(mm, .inr (4, [.int (iI fa), .ref tA, .int (iI ((nn : Int))), .int (iI pl), .int (iI yr), .int (iI mn), .int (iI dy), .int (iI ((i : Int))), .ref oA, .ref sA, .ref eA, .ref gA, .ref cA, .ref rA, .ref fA])), (oA, .inl (cI, 8, .inl (fun j => iI (oI j)))), (sA, .inl (cI, 8, .inl (fun j => iI (sI j)))), (eA, .inl (cJJ, 8, .inr (.inr (.inr (.inr (fun k => some (eR k))))))), (gA, .inl (cGG, 8, .inr (.inr (.inr (.inr (fun k => some (gR k))))))), (cA, .inl (cI, 8, .inl (fun j => iI (cN j : Int)))), (eR zi, .inl (cJ, 660, .inr (.inl (fun j => lL (eF j))))), (gR zi, .inl (cG, 660, .inl (fun j => iI (bI (gF j))))), (fA, .inl (cJ, 2, .inr (.inl (vp_updL (vp_updL fF 0 (lL (rfA (oI zi) (sI zi) t))) 1 (lL (rfB (oI zi) t))))))] := hD
        refine lv_iinc (k := 0) (v := iI (0 + 1 + 1)) (lv' := [(4, .int (iI (0 + 1 + 1))), (7, .long (lL (rfB (oI zi) t))), (5, .long (lL (rfA (oI zi) (sI zi) t))), (0, .ref mm), (1, .int (iI ((zi : Int)))), (2, .long (lL t))]) hx hb d_Ref_find_93 hl rfl (iI_add _ _) (by decide) rfl (fun ls hl => ?_)
        refine lv_iload hx hb d_Ref_find_96 (lv_at hl 0 rfl) ?_
        have e1 : rP1 (oI zi) (sI zi) (cN zi) eF gF t = true := rP1_t (by omega)
        have e2 : rP2 (oI zi) (sI zi) (cN zi) eF gF t = true := rP2_t (by omega) (by omega)
        exact m_iret hx hb hr hlk hP hS d_Ref_find_98 (by rw [e1, e2]; rfl) (by rw [e1, e2]; rfl)
abbrev rm_Ref_many : Room := { frames := 3, cells := 0, slots := 0, locals := 82 }
set_option maxHeartbeats 4000000 in
set_option maxRecDepth 100000 in
theorem ct_Ref_many (l : Launch) (D : va_G) (tys : List (ClassId × FieldType)) (mm : Nat) (tA : Nat) (oA : Nat) (sA : Nat) (eA : Nat) (gA : Nat) (cA : Nat) (rA : Nat) (fA : Nat) (fa : Int) (nn : Nat) (pl : Int) (yr : Int) (mn : Int) (dy : Int) (i : Nat) (cI : ClassId) (cJ : ClassId) (cG : ClassId) (cJJ : ClassId) (cGG : ClassId) (oI : Nat → Int) (sI : Nat → Int) (cN : Nat → Nat) (eR : Nat → Nat) (gR : Nat → Nat) (zi : Nat) (eF : Nat → Int) (gF : Nat → Bool) (fF : Nat → Int64) (t : Int) (hI : tys[1]? = some (cI, .int)) (hJ : tys[2]? = some (cJ, .long)) (hG : tys[3]? = some (cG, .boolean)) (hJJ : tys[5]? = some (cJJ, .array .long)) (hGG : tys[6]? = some (cGG, .array .boolean)) (gz : zi < 8) (gc : cN zi ≤ 660) (gE : ∀ k, k < 660 → -1000000000000000 ≤ eF k ∧ eF k ≤ 1000000000000000) (hs : evS (cN zi) eF gF) (go1 : -840 ≤ oI zi) (go2 : oI zi ≤ 840) (gs1 : 0 ≤ sI zi) (gs2 : sI zi ≤ 120) (gt1 : 0 ≤ t) (gt2 : t ≤ 10413791999999) : mMet l y_Ref_many c_Ref_many 4 (some .int) rm_Ref_many D tys [.ref mm, .int (iI ((zi : Int))), .long (lL t)] [(mm, .inr (4, [.int (iI fa), .ref tA, .int (iI ((nn : Int))), .int (iI pl), .int (iI yr), .int (iI mn), .int (iI dy), .int (iI ((i : Int))), .ref oA, .ref sA, .ref eA, .ref gA, .ref cA, .ref rA, .ref fA])), (oA, .inl (cI, 8, .inl (fun j => iI (oI j)))), (sA, .inl (cI, 8, .inl (fun j => iI (sI j)))), (eA, .inl (cJJ, 8, .inr (.inr (.inr (.inr (fun k => some (eR k))))))), (gA, .inl (cGG, 8, .inr (.inr (.inr (.inr (fun k => some (gR k))))))), (cA, .inl (cI, 8, .inl (fun j => iI (cN j : Int)))), (eR zi, .inl (cJ, 660, .inr (.inl (fun j => lL (eF j))))), (gR zi, .inl (cG, 660, .inl (fun j => iI (bI (gF j))))), (fA, .inl (cJ, 2, .inr (.inl fF)))] (some (.int (iI (bI (rP1 (oI zi) (sI zi) (cN zi) eF gF t) + bI (rP2 (oI zi) (sI zi) (cN zi) eF gF t))))) [(mm, .inr (4, [.int (iI 0), .ref tA, .int (iI ((nn : Int))), .int (iI pl), .int (iI yr), .int (iI mn), .int (iI dy), .int (iI ((i : Int))), .ref oA, .ref sA, .ref eA, .ref gA, .ref cA, .ref rA, .ref fA])), (oA, .inl (cI, 8, .inl (fun j => iI (oI j)))), (sA, .inl (cI, 8, .inl (fun j => iI (sI j)))), (eA, .inl (cJJ, 8, .inr (.inr (.inr (.inr (fun k => some (eR k))))))), (gA, .inl (cGG, 8, .inr (.inr (.inr (.inr (fun k => some (gR k))))))), (cA, .inl (cI, 8, .inl (fun j => iI (cN j : Int)))), (eR zi, .inl (cJ, 660, .inr (.inl (fun j => lL (eF j))))), (gR zi, .inl (cG, 660, .inl (fun j => iI (bI (gF j))))), (fA, .inl (cJ, 2, .inr (.inl (rFnd (rP1 (oI zi) (sI zi) (cN zi) eF gF t) (rP2 (oI zi) (sI zi) (cN zi) eF gF t) (rfA (oI zi) (sI zi) t) (rfB (oI zi) t) fF))))] := by
  refine mMet_of (by decide) (Nat.le_of_ble_eq_true rfl) ?_
  intro p e s m below meth c hx hb hr hown hlk hml hk hK hP hD hS ls hl
  have hl : lv_has ls 4 [(0, .ref mm), (1, .int (iI ((zi : Int)))), (2, .long (lL t))] := hl
  refine lv_aload_n hx hb d_Ref_many_0 rfl (lv_at hl 0 rfl) ?_
  refine lv_iconst (v := iI 0) hx hb d_Ref_many_1 rfl ?_
  refine g_put hx hb hk hown hK hP hD hS 0 rfl f_Ref_44 fT_Ref rfl (rfl) rfl (Nat.le_of_ble_eq_true rfl) d_Ref_many_2 (fun H locs hP hD hS => ?_)
  have hP : va_P D vwCl [(mm, .inr (4, [.int (iI 0), .ref tA, .int (iI ((nn : Int))), .int (iI pl), .int (iI yr), .int (iI mn), .int (iI dy), .int (iI ((i : Int))), .ref oA, .ref sA, .ref eA, .ref gA, .ref cA, .ref rA, .ref fA])), (oA, .inl (cI, 8, .inl (fun j => iI (oI j)))), (sA, .inl (cI, 8, .inl (fun j => iI (sI j)))), (eA, .inl (cJJ, 8, .inr (.inr (.inr (.inr (fun k => some (eR k))))))), (gA, .inl (cGG, 8, .inr (.inr (.inr (.inr (fun k => some (gR k))))))), (cA, .inl (cI, 8, .inl (fun j => iI (cN j : Int)))), (eR zi, .inl (cJ, 660, .inr (.inl (fun j => lL (eF j))))), (gR zi, .inl (cG, 660, .inl (fun j => iI (bI (gF j))))), (fA, .inl (cJ, 2, .inr (.inl fF)))] H := hP
  have hD : va_D (wA [(mm, .inr (4, [.int (iI fa), .ref tA, .int (iI ((nn : Int))), .int (iI pl), .int (iI yr), .int (iI mn), .int (iI dy), .int (iI ((i : Int))), .ref oA, .ref sA, .ref eA, .ref gA, .ref cA, .ref rA, .ref fA])), (oA, .inl (cI, 8, .inl (fun j => iI (oI j)))), (sA, .inl (cI, 8, .inl (fun j => iI (sI j)))), (eA, .inl (cJJ, 8, .inr (.inr (.inr (.inr (fun k => some (eR k))))))), (gA, .inl (cGG, 8, .inr (.inr (.inr (.inr (fun k => some (gR k))))))), (cA, .inl (cI, 8, .inl (fun j => iI (cN j : Int)))), (eR zi, .inl (cJ, 660, .inr (.inl (fun j => lL (eF j))))), (gR zi, .inl (cG, 660, .inl (fun j => iI (bI (gF j))))), (fA, .inl (cJ, 2, .inr (.inl fF)))]) [(mm, .inr (4, [.int (iI 0), .ref tA, .int (iI ((nn : Int))), .int (iI pl), .int (iI yr), .int (iI mn), .int (iI dy), .int (iI ((i : Int))), .ref oA, .ref sA, .ref eA, .ref gA, .ref cA, .ref rA, .ref fA])), (oA, .inl (cI, 8, .inl (fun j => iI (oI j)))), (sA, .inl (cI, 8, .inl (fun j => iI (sI j)))), (eA, .inl (cJJ, 8, .inr (.inr (.inr (.inr (fun k => some (eR k))))))), (gA, .inl (cGG, 8, .inr (.inr (.inr (.inr (fun k => some (gR k))))))), (cA, .inl (cI, 8, .inl (fun j => iI (cN j : Int)))), (eR zi, .inl (cJ, 660, .inr (.inl (fun j => lL (eF j))))), (gR zi, .inl (cG, 660, .inl (fun j => iI (bI (gF j))))), (fA, .inl (cJ, 2, .inr (.inl fF)))] := hD
  refine lv_aload_n hx hb d_Ref_many_5 rfl (lv_at hl 0 rfl) ?_
  refine lv_iload_n hx hb d_Ref_many_6 rfl (lv_at hl 1 rfl) ?_
  refine lv_lload_n hx hb d_Ref_many_7 rfl (lv_at hl 2 rfl) ?_
  refine p_callV (rest := []) (q0 := 0) hx hb (hml.trans hl.1.symm) hown hk hK k_Ref_137 (ct_Ref_out l D tys mm tA oA sA eA gA cA rA fA 0 nn pl yr mn dy i ((zi : Int)) t (by omega) (by omega) (by omega) (by omega)) (w_subP (is := [0]) hP rfl) (w_subD (is := [0]) hD rfl rfl) rfl rfl rfl rfl ⟨rfl, rfl⟩ ⟨by decide, by decide, by decide, by decide⟩ (Nat.le_of_ble_eq_true rfl) d_Ref_many_8 ?_
  have gO : zOutB (zi : Int) t = false := by unfold zOutB; exact decide_eq_false (by omega)
  have gO2 : bI (zOutB (zi : Int) t) = 0 := by rw [gO]; rfl
  refine ri_if_eq (tgt := 22) hx hb d_Ref_many_11 (by decide) (fun h11 => ?_) (fun h11 => ?_)
  · refine lv_aload_n hx hb d_Ref_many_22 rfl (lv_at hl 0 rfl) ?_
    refine lv_iload_n hx hb d_Ref_many_23 rfl (lv_at hl 1 rfl) ?_
    refine lv_lload_n hx hb d_Ref_many_24 rfl (lv_at hl 2 rfl) ?_
    refine m_callV (rest := []) (q0 := 0) hx hb (hml.trans hl.1.symm) hown hk hK k_Ref_148 (ct_Ref_find l D tys mm tA oA sA eA gA cA rA fA 0 nn pl yr mn dy i cI cJ cG cJJ cGG oI sI cN eR gR zi eF gF fF t hI hJ hG hJJ hGG gz gc gE hs go1 go2 gs1 gs2 (by omega) (by omega)) hP hD hS [0, 1, 2, 3, 4, 5, 6, 7, 8] rfl rfl rfl rfl rfl rfl rfl ⟨rfl, rfl⟩ ⟨by decide, by decide, by decide, by decide⟩ (Nat.le_of_ble_eq_true rfl) d_Ref_many_25 (fun H locs hP hD hS => ?_)
    have hP : va_P D vwCl [(mm, .inr (4, [.int (iI 0), .ref tA, .int (iI ((nn : Int))), .int (iI pl), .int (iI yr), .int (iI mn), .int (iI dy), .int (iI ((i : Int))), .ref oA, .ref sA, .ref eA, .ref gA, .ref cA, .ref rA, .ref fA])), (oA, .inl (cI, 8, .inl (fun j => iI (oI j)))), (sA, .inl (cI, 8, .inl (fun j => iI (sI j)))), (eA, .inl (cJJ, 8, .inr (.inr (.inr (.inr (fun k => some (eR k))))))), (gA, .inl (cGG, 8, .inr (.inr (.inr (.inr (fun k => some (gR k))))))), (cA, .inl (cI, 8, .inl (fun j => iI (cN j : Int)))), (eR zi, .inl (cJ, 660, .inr (.inl (fun j => lL (eF j))))), (gR zi, .inl (cG, 660, .inl (fun j => iI (bI (gF j))))), (fA, .inl (cJ, 2, .inr (.inl (rFnd (rP1 (oI zi) (sI zi) (cN zi) eF gF t) (rP2 (oI zi) (sI zi) (cN zi) eF gF t) (rfA (oI zi) (sI zi) t) (rfB (oI zi) t) fF))))] H := hP
    have hD : va_D (wA [(mm, .inr (4, [.int (iI fa), .ref tA, .int (iI ((nn : Int))), .int (iI pl), .int (iI yr), .int (iI mn), .int (iI dy), .int (iI ((i : Int))), .ref oA, .ref sA, .ref eA, .ref gA, .ref cA, .ref rA, .ref fA])), (oA, .inl (cI, 8, .inl (fun j => iI (oI j)))), (sA, .inl (cI, 8, .inl (fun j => iI (sI j)))), (eA, .inl (cJJ, 8, .inr (.inr (.inr (.inr (fun k => some (eR k))))))), (gA, .inl (cGG, 8, .inr (.inr (.inr (.inr (fun k => some (gR k))))))), (cA, .inl (cI, 8, .inl (fun j => iI (cN j : Int)))), (eR zi, .inl (cJ, 660, .inr (.inl (fun j => lL (eF j))))), (gR zi, .inl (cG, 660, .inl (fun j => iI (bI (gF j))))), (fA, .inl (cJ, 2, .inr (.inl fF)))]) [(mm, .inr (4, [.int (iI 0), .ref tA, .int (iI ((nn : Int))), .int (iI pl), .int (iI yr), .int (iI mn), .int (iI dy), .int (iI ((i : Int))), .ref oA, .ref sA, .ref eA, .ref gA, .ref cA, .ref rA, .ref fA])), (oA, .inl (cI, 8, .inl (fun j => iI (oI j)))), (sA, .inl (cI, 8, .inl (fun j => iI (sI j)))), (eA, .inl (cJJ, 8, .inr (.inr (.inr (.inr (fun k => some (eR k))))))), (gA, .inl (cGG, 8, .inr (.inr (.inr (.inr (fun k => some (gR k))))))), (cA, .inl (cI, 8, .inl (fun j => iI (cN j : Int)))), (eR zi, .inl (cJ, 660, .inr (.inl (fun j => lL (eF j))))), (gR zi, .inl (cG, 660, .inl (fun j => iI (bI (gF j))))), (fA, .inl (cJ, 2, .inr (.inl (rFnd (rP1 (oI zi) (sI zi) (cN zi) eF gF t) (rP2 (oI zi) (sI zi) (cN zi) eF gF t) (rfA (oI zi) (sI zi) t) (rfB (oI zi) t) fF))))] := hD
    exact m_iret hx hb hr hlk hP hS d_Ref_many_28 (by rfl) (by rfl)
  · exfalso; omega
abbrev rm_Ref_many_b : Room := { frames := 1, cells := 0, slots := 0, locals := 23 }
set_option maxHeartbeats 4000000 in
set_option maxRecDepth 100000 in
theorem ct_Ref_many_b (l : Launch) (D : va_G) (tys : List (ClassId × FieldType)) (mm : Nat) (tA : Nat) (oA : Nat) (sA : Nat) (eA : Nat) (gA : Nat) (cA : Nat) (rA : Nat) (fA : Nat) (fa : Int) (nn : Nat) (pl : Int) (yr : Int) (mn : Int) (dy : Int) (i : Nat) (z : Int) (t : Int) (gz1 : -2147483648 ≤ z) (gz2 : z ≤ 2147483647) (gi1 : -9223372036854775808 ≤ t) (gi2 : t ≤ 9223372036854775807) (gbad : z < 0 ∨ 7 < z ∨ t < 0 ∨ 10413791999999 < t) : mMet l y_Ref_many c_Ref_many 4 (some .int) rm_Ref_many_b D tys [.ref mm, .int (iI z), .long (lL t)] [(mm, .inr (4, [.int (iI fa), .ref tA, .int (iI ((nn : Int))), .int (iI pl), .int (iI yr), .int (iI mn), .int (iI dy), .int (iI ((i : Int))), .ref oA, .ref sA, .ref eA, .ref gA, .ref cA, .ref rA, .ref fA]))] (some (.int (iI 0))) [(mm, .inr (4, [.int (iI 1), .ref tA, .int (iI ((nn : Int))), .int (iI pl), .int (iI yr), .int (iI mn), .int (iI dy), .int (iI ((i : Int))), .ref oA, .ref sA, .ref eA, .ref gA, .ref cA, .ref rA, .ref fA]))] := by
  refine mMet_of (by decide) (Nat.le_of_ble_eq_true rfl) ?_
  intro p e s m below meth c hx hb hr hown hlk hml hk hK hP hD hS ls hl
  have hl : lv_has ls 4 [(0, .ref mm), (1, .int (iI z)), (2, .long (lL t))] := hl
  refine lv_aload_n hx hb d_Ref_many_0 rfl (lv_at hl 0 rfl) ?_
  refine lv_iconst (v := iI 0) hx hb d_Ref_many_1 rfl ?_
  refine g_put hx hb hk hown hK hP hD hS 0 rfl f_Ref_44 fT_Ref rfl (rfl) rfl (Nat.le_of_ble_eq_true rfl) d_Ref_many_2 (fun H locs hP hD hS => ?_)
  have hP : va_P D vwCl [(mm, .inr (4, [.int (iI 0), .ref tA, .int (iI ((nn : Int))), .int (iI pl), .int (iI yr), .int (iI mn), .int (iI dy), .int (iI ((i : Int))), .ref oA, .ref sA, .ref eA, .ref gA, .ref cA, .ref rA, .ref fA]))] H := hP
  have hD : va_D (wA [(mm, .inr (4, [.int (iI fa), .ref tA, .int (iI ((nn : Int))), .int (iI pl), .int (iI yr), .int (iI mn), .int (iI dy), .int (iI ((i : Int))), .ref oA, .ref sA, .ref eA, .ref gA, .ref cA, .ref rA, .ref fA]))]) [(mm, .inr (4, [.int (iI 0), .ref tA, .int (iI ((nn : Int))), .int (iI pl), .int (iI yr), .int (iI mn), .int (iI dy), .int (iI ((i : Int))), .ref oA, .ref sA, .ref eA, .ref gA, .ref cA, .ref rA, .ref fA]))] := hD
  refine lv_aload_n hx hb d_Ref_many_5 rfl (lv_at hl 0 rfl) ?_
  refine lv_iload_n hx hb d_Ref_many_6 rfl (lv_at hl 1 rfl) ?_
  refine lv_lload_n hx hb d_Ref_many_7 rfl (lv_at hl 2 rfl) ?_
  refine p_callV (rest := []) (q0 := 0) hx hb (hml.trans hl.1.symm) hown hk hK k_Ref_137 (ct_Ref_out l D tys mm tA oA sA eA gA cA rA fA 0 nn pl yr mn dy i z t (by omega) (by omega) (by omega) (by omega)) (w_subP (is := [0]) hP rfl) (w_subD (is := [0]) hD rfl rfl) rfl rfl rfl rfl ⟨rfl, rfl⟩ ⟨by decide, by decide, by decide, by decide⟩ (Nat.le_of_ble_eq_true rfl) d_Ref_many_8 ?_
  have gO : zOutB z t = true := by unfold zOutB; exact decide_eq_true (by omega)
  have gO2 : bI (zOutB z t) = 1 := by rw [gO]; rfl
  refine ri_if_eq (tgt := 22) hx hb d_Ref_many_11 (by decide) (fun h11 => ?_) (fun h11 => ?_)
  · exfalso; omega
  · refine lv_aload_n hx hb d_Ref_many_14 rfl (lv_at hl 0 rfl) ?_
    refine lv_iconst (v := iI 1) hx hb d_Ref_many_15 rfl ?_
    refine m_callV (rest := []) (q0 := 0) hx hb (hml.trans hl.1.symm) hown hk hK k_Ref_141 (ct_Ref_fail l D tys mm tA oA sA eA gA cA rA fA 0 nn pl yr mn dy i 1 ) hP hD hS [0] rfl rfl rfl rfl rfl rfl rfl ⟨rfl, rfl⟩ ⟨by decide, by decide, by decide, by decide⟩ (Nat.le_of_ble_eq_true rfl) d_Ref_many_16 (fun H locs hP hD hS => ?_)
    have hP : va_P D vwCl [(mm, .inr (4, [.int (iI 1), .ref tA, .int (iI ((nn : Int))), .int (iI pl), .int (iI yr), .int (iI mn), .int (iI dy), .int (iI ((i : Int))), .ref oA, .ref sA, .ref eA, .ref gA, .ref cA, .ref rA, .ref fA]))] H := hP
    have hD : va_D (wA [(mm, .inr (4, [.int (iI fa), .ref tA, .int (iI ((nn : Int))), .int (iI pl), .int (iI yr), .int (iI mn), .int (iI dy), .int (iI ((i : Int))), .ref oA, .ref sA, .ref eA, .ref gA, .ref cA, .ref rA, .ref fA]))]) [(mm, .inr (4, [.int (iI 1), .ref tA, .int (iI ((nn : Int))), .int (iI pl), .int (iI yr), .int (iI mn), .int (iI dy), .int (iI ((i : Int))), .ref oA, .ref sA, .ref eA, .ref gA, .ref cA, .ref rA, .ref fA]))] := hD
    refine lv_goto (tgt := 28) hx hb d_Ref_many_19 (by decide) ?_
    exact m_iret hx hb hr hlk hP hS d_Ref_many_28 (by rfl) (by rfl)
abbrev rm_Ref_universal : Room := { frames := 3, cells := 0, slots := 0, locals := 82 }
set_option maxHeartbeats 4000000 in
set_option maxRecDepth 100000 in
theorem ct_Ref_universal (l : Launch) (D : va_G) (tys : List (ClassId × FieldType)) (mm : Nat) (tA : Nat) (oA : Nat) (sA : Nat) (eA : Nat) (gA : Nat) (cA : Nat) (rA : Nat) (fA : Nat) (fa : Int) (nn : Nat) (pl : Int) (yr : Int) (mn : Int) (dy : Int) (i : Nat) (cI : ClassId) (cJ : ClassId) (cG : ClassId) (cJJ : ClassId) (cGG : ClassId) (oI : Nat → Int) (sI : Nat → Int) (cN : Nat → Nat) (eR : Nat → Nat) (gR : Nat → Nat) (zi : Nat) (eF : Nat → Int) (gF : Nat → Bool) (fF : Nat → Int64) (t : Int) (lt : Bool) (hI : tys[1]? = some (cI, .int)) (hJ : tys[2]? = some (cJ, .long)) (hG : tys[3]? = some (cG, .boolean)) (hJJ : tys[5]? = some (cJJ, .array .long)) (hGG : tys[6]? = some (cGG, .array .boolean)) (gz : zi < 8) (gc : cN zi ≤ 660) (gE : ∀ k, k < 660 → -1000000000000000 ≤ eF k ∧ eF k ≤ 1000000000000000) (hs : evS (cN zi) eF gF) (go1 : -840 ≤ oI zi) (go2 : oI zi ≤ 840) (gs1 : 0 ≤ sI zi) (gs2 : sI zi ≤ 120) (gt1 : 0 ≤ t) (gt2 : t ≤ 10413791999999) (gp : rP1 (oI zi) (sI zi) (cN zi) eF gF t = true ∨ rP2 (oI zi) (sI zi) (cN zi) eF gF t = true) : mMet l y_Ref_universal c_Ref_universal 6 (some .long) rm_Ref_universal D tys [.ref mm, .int (iI ((zi : Int))), .long (lL t), .int (iI (bI lt))] [(mm, .inr (4, [.int (iI fa), .ref tA, .int (iI ((nn : Int))), .int (iI pl), .int (iI yr), .int (iI mn), .int (iI dy), .int (iI ((i : Int))), .ref oA, .ref sA, .ref eA, .ref gA, .ref cA, .ref rA, .ref fA])), (oA, .inl (cI, 8, .inl (fun j => iI (oI j)))), (sA, .inl (cI, 8, .inl (fun j => iI (sI j)))), (eA, .inl (cJJ, 8, .inr (.inr (.inr (.inr (fun k => some (eR k))))))), (gA, .inl (cGG, 8, .inr (.inr (.inr (.inr (fun k => some (gR k))))))), (cA, .inl (cI, 8, .inl (fun j => iI (cN j : Int)))), (eR zi, .inl (cJ, 660, .inr (.inl (fun j => lL (eF j))))), (gR zi, .inl (cG, 660, .inl (fun j => iI (bI (gF j))))), (fA, .inl (cJ, 2, .inr (.inl fF)))] (some (.long (lL (rUni (rP1 (oI zi) (sI zi) (cN zi) eF gF t) (rP2 (oI zi) (sI zi) (cN zi) eF gF t) (rfA (oI zi) (sI zi) t) (rfB (oI zi) t) lt)))) [(mm, .inr (4, [.int (iI 0), .ref tA, .int (iI ((nn : Int))), .int (iI pl), .int (iI yr), .int (iI mn), .int (iI dy), .int (iI ((i : Int))), .ref oA, .ref sA, .ref eA, .ref gA, .ref cA, .ref rA, .ref fA])), (oA, .inl (cI, 8, .inl (fun j => iI (oI j)))), (sA, .inl (cI, 8, .inl (fun j => iI (sI j)))), (eA, .inl (cJJ, 8, .inr (.inr (.inr (.inr (fun k => some (eR k))))))), (gA, .inl (cGG, 8, .inr (.inr (.inr (.inr (fun k => some (gR k))))))), (cA, .inl (cI, 8, .inl (fun j => iI (cN j : Int)))), (eR zi, .inl (cJ, 660, .inr (.inl (fun j => lL (eF j))))), (gR zi, .inl (cG, 660, .inl (fun j => iI (bI (gF j))))), (fA, .inl (cJ, 2, .inr (.inl (rFnd (rP1 (oI zi) (sI zi) (cN zi) eF gF t) (rP2 (oI zi) (sI zi) (cN zi) eF gF t) (rfA (oI zi) (sI zi) t) (rfB (oI zi) t) fF))))] := by
  refine mMet_of (by decide) (Nat.le_of_ble_eq_true rfl) ?_
  intro p e s m below meth c hx hb hr hown hlk hml hk hK hP hD hS ls hl
  have hl : lv_has ls 6 [(0, .ref mm), (1, .int (iI ((zi : Int)))), (2, .long (lL t)), (4, .int (iI (bI lt)))] := hl
  have g1 := bI_01 (rP1 (oI zi) (sI zi) (cN zi) eF gF t)
  have g2 := bI_01 (rP2 (oI zi) (sI zi) (cN zi) eF gF t)
  have g3 : bI (rP1 (oI zi) (sI zi) (cN zi) eF gF t) + bI (rP2 (oI zi) (sI zi) (cN zi) eF gF t) ≠ 0 := by have := rIx_is gp; omega
  have gX := rIx_b (rP1 (oI zi) (sI zi) (cN zi) eF gF t) (rP2 (oI zi) (sI zi) (cN zi) eF gF t)
  refine lv_aload_n hx hb d_Ref_universal_0 rfl (lv_at hl 0 rfl) ?_
  refine lv_iconst (v := iI 0) hx hb d_Ref_universal_1 rfl ?_
  refine g_put hx hb hk hown hK hP hD hS 0 rfl f_Ref_44 fT_Ref rfl (rfl) rfl (Nat.le_of_ble_eq_true rfl) d_Ref_universal_2 (fun H locs hP hD hS => ?_)
  have hP : va_P D vwCl [(mm, .inr (4, [.int (iI 0), .ref tA, .int (iI ((nn : Int))), .int (iI pl), .int (iI yr), .int (iI mn), .int (iI dy), .int (iI ((i : Int))), .ref oA, .ref sA, .ref eA, .ref gA, .ref cA, .ref rA, .ref fA])), (oA, .inl (cI, 8, .inl (fun j => iI (oI j)))), (sA, .inl (cI, 8, .inl (fun j => iI (sI j)))), (eA, .inl (cJJ, 8, .inr (.inr (.inr (.inr (fun k => some (eR k))))))), (gA, .inl (cGG, 8, .inr (.inr (.inr (.inr (fun k => some (gR k))))))), (cA, .inl (cI, 8, .inl (fun j => iI (cN j : Int)))), (eR zi, .inl (cJ, 660, .inr (.inl (fun j => lL (eF j))))), (gR zi, .inl (cG, 660, .inl (fun j => iI (bI (gF j))))), (fA, .inl (cJ, 2, .inr (.inl fF)))] H := hP
  have hD : va_D (wA [(mm, .inr (4, [.int (iI fa), .ref tA, .int (iI ((nn : Int))), .int (iI pl), .int (iI yr), .int (iI mn), .int (iI dy), .int (iI ((i : Int))), .ref oA, .ref sA, .ref eA, .ref gA, .ref cA, .ref rA, .ref fA])), (oA, .inl (cI, 8, .inl (fun j => iI (oI j)))), (sA, .inl (cI, 8, .inl (fun j => iI (sI j)))), (eA, .inl (cJJ, 8, .inr (.inr (.inr (.inr (fun k => some (eR k))))))), (gA, .inl (cGG, 8, .inr (.inr (.inr (.inr (fun k => some (gR k))))))), (cA, .inl (cI, 8, .inl (fun j => iI (cN j : Int)))), (eR zi, .inl (cJ, 660, .inr (.inl (fun j => lL (eF j))))), (gR zi, .inl (cG, 660, .inl (fun j => iI (bI (gF j))))), (fA, .inl (cJ, 2, .inr (.inl fF)))]) [(mm, .inr (4, [.int (iI 0), .ref tA, .int (iI ((nn : Int))), .int (iI pl), .int (iI yr), .int (iI mn), .int (iI dy), .int (iI ((i : Int))), .ref oA, .ref sA, .ref eA, .ref gA, .ref cA, .ref rA, .ref fA])), (oA, .inl (cI, 8, .inl (fun j => iI (oI j)))), (sA, .inl (cI, 8, .inl (fun j => iI (sI j)))), (eA, .inl (cJJ, 8, .inr (.inr (.inr (.inr (fun k => some (eR k))))))), (gA, .inl (cGG, 8, .inr (.inr (.inr (.inr (fun k => some (gR k))))))), (cA, .inl (cI, 8, .inl (fun j => iI (cN j : Int)))), (eR zi, .inl (cJ, 660, .inr (.inl (fun j => lL (eF j))))), (gR zi, .inl (cG, 660, .inl (fun j => iI (bI (gF j))))), (fA, .inl (cJ, 2, .inr (.inl fF)))] := hD
  refine lv_aload_n hx hb d_Ref_universal_5 rfl (lv_at hl 0 rfl) ?_
  refine lv_iload_n hx hb d_Ref_universal_6 rfl (lv_at hl 1 rfl) ?_
  refine lv_lload_n hx hb d_Ref_universal_7 rfl (lv_at hl 2 rfl) ?_
  refine p_callV (rest := []) (q0 := 0) hx hb (hml.trans hl.1.symm) hown hk hK k_Ref_137 (ct_Ref_out l D tys mm tA oA sA eA gA cA rA fA 0 nn pl yr mn dy i ((zi : Int)) t (by omega) (by omega) (by omega) (by omega)) (w_subP (is := [0]) hP rfl) (w_subD (is := [0]) hD rfl rfl) rfl rfl rfl rfl ⟨rfl, rfl⟩ ⟨by decide, by decide, by decide, by decide⟩ (Nat.le_of_ble_eq_true rfl) d_Ref_universal_8 ?_
  have gO : zOutB (zi : Int) t = false := by unfold zOutB; exact decide_eq_false (by omega)
  have gO2 : bI (zOutB (zi : Int) t) = 0 := by rw [gO]; rfl
  refine ri_if_eq (tgt := 21) hx hb d_Ref_universal_11 (by decide) (fun h11 => ?_) (fun h11 => ?_)
  · refine lv_aload_n hx hb d_Ref_universal_21 rfl (lv_at hl 0 rfl) ?_
    refine lv_iload_n hx hb d_Ref_universal_22 rfl (lv_at hl 1 rfl) ?_
    refine lv_lload_n hx hb d_Ref_universal_23 rfl (lv_at hl 2 rfl) ?_
    refine m_callV (rest := []) (q0 := 0) hx hb (hml.trans hl.1.symm) hown hk hK k_Ref_148 (ct_Ref_find l D tys mm tA oA sA eA gA cA rA fA 0 nn pl yr mn dy i cI cJ cG cJJ cGG oI sI cN eR gR zi eF gF fF t hI hJ hG hJJ hGG gz gc gE hs go1 go2 gs1 gs2 (by omega) (by omega)) hP hD hS [0, 1, 2, 3, 4, 5, 6, 7, 8] rfl rfl rfl rfl rfl rfl rfl ⟨rfl, rfl⟩ ⟨by decide, by decide, by decide, by decide⟩ (Nat.le_of_ble_eq_true rfl) d_Ref_universal_24 (fun H locs hP hD hS => ?_)
    have hP : va_P D vwCl [(mm, .inr (4, [.int (iI 0), .ref tA, .int (iI ((nn : Int))), .int (iI pl), .int (iI yr), .int (iI mn), .int (iI dy), .int (iI ((i : Int))), .ref oA, .ref sA, .ref eA, .ref gA, .ref cA, .ref rA, .ref fA])), (oA, .inl (cI, 8, .inl (fun j => iI (oI j)))), (sA, .inl (cI, 8, .inl (fun j => iI (sI j)))), (eA, .inl (cJJ, 8, .inr (.inr (.inr (.inr (fun k => some (eR k))))))), (gA, .inl (cGG, 8, .inr (.inr (.inr (.inr (fun k => some (gR k))))))), (cA, .inl (cI, 8, .inl (fun j => iI (cN j : Int)))), (eR zi, .inl (cJ, 660, .inr (.inl (fun j => lL (eF j))))), (gR zi, .inl (cG, 660, .inl (fun j => iI (bI (gF j))))), (fA, .inl (cJ, 2, .inr (.inl (rFnd (rP1 (oI zi) (sI zi) (cN zi) eF gF t) (rP2 (oI zi) (sI zi) (cN zi) eF gF t) (rfA (oI zi) (sI zi) t) (rfB (oI zi) t) fF))))] H := hP
    have hD : va_D (wA [(mm, .inr (4, [.int (iI fa), .ref tA, .int (iI ((nn : Int))), .int (iI pl), .int (iI yr), .int (iI mn), .int (iI dy), .int (iI ((i : Int))), .ref oA, .ref sA, .ref eA, .ref gA, .ref cA, .ref rA, .ref fA])), (oA, .inl (cI, 8, .inl (fun j => iI (oI j)))), (sA, .inl (cI, 8, .inl (fun j => iI (sI j)))), (eA, .inl (cJJ, 8, .inr (.inr (.inr (.inr (fun k => some (eR k))))))), (gA, .inl (cGG, 8, .inr (.inr (.inr (.inr (fun k => some (gR k))))))), (cA, .inl (cI, 8, .inl (fun j => iI (cN j : Int)))), (eR zi, .inl (cJ, 660, .inr (.inl (fun j => lL (eF j))))), (gR zi, .inl (cG, 660, .inl (fun j => iI (bI (gF j))))), (fA, .inl (cJ, 2, .inr (.inl fF)))]) [(mm, .inr (4, [.int (iI 0), .ref tA, .int (iI ((nn : Int))), .int (iI pl), .int (iI yr), .int (iI mn), .int (iI dy), .int (iI ((i : Int))), .ref oA, .ref sA, .ref eA, .ref gA, .ref cA, .ref rA, .ref fA])), (oA, .inl (cI, 8, .inl (fun j => iI (oI j)))), (sA, .inl (cI, 8, .inl (fun j => iI (sI j)))), (eA, .inl (cJJ, 8, .inr (.inr (.inr (.inr (fun k => some (eR k))))))), (gA, .inl (cGG, 8, .inr (.inr (.inr (.inr (fun k => some (gR k))))))), (cA, .inl (cI, 8, .inl (fun j => iI (cN j : Int)))), (eR zi, .inl (cJ, 660, .inr (.inl (fun j => lL (eF j))))), (gR zi, .inl (cG, 660, .inl (fun j => iI (bI (gF j))))), (fA, .inl (cJ, 2, .inr (.inl (rFnd (rP1 (oI zi) (sI zi) (cN zi) eF gF t) (rP2 (oI zi) (sI zi) (cN zi) eF gF t) (rfA (oI zi) (sI zi) t) (rfB (oI zi) t) fF))))] := hD
    refine lv_istore (lv' := [(5, .int (iI (bI (rP1 (oI zi) (sI zi) (cN zi) eF gF t) + bI (rP2 (oI zi) (sI zi) (cN zi) eF gF t)))), (0, .ref mm), (1, .int (iI ((zi : Int)))), (2, .long (lL t)), (4, .int (iI (bI lt)))]) hx hb d_Ref_universal_27 hl (by decide) rfl (fun ls hl => ?_)
    refine lv_iload hx hb d_Ref_universal_29 (lv_at hl 0 rfl) ?_
    refine ri_if_ne (tgt := 43) hx hb d_Ref_universal_31 (by decide) (fun h31 => ?_) (fun h31 => ?_)
    · refine lv_aload_n hx hb d_Ref_universal_43 rfl (lv_at hl 1 rfl) ?_
      refine g_get hx hb hk hown hK hP 0 rfl f_Ref_40 rfl d_Ref_universal_44 ?_
      refine lv_iload hx hb d_Ref_universal_47 (lv_at hl 4 rfl) ?_
      have gL := bI_b lt
      refine ri_if_eq (tgt := 59) hx hb d_Ref_universal_49 (by decide) (fun h49 => ?_) (fun h49 => ?_)
      · refine lv_iconst (v := iI 0) hx hb d_Ref_universal_59 rfl ?_
        refine ri_i (show 0 = (0 : Int) from rfl) ?_
        refine g_lald (i := 0) hx hb hK hP 8 2 rfl hJ d_Ref_universal_60 ?_ (by omega) (by decide)
        refine ri_v (congrArg Value.long (rFnd_u0 gp)) ?_
        exact m_lret hx hb hr hlk hP hS d_Ref_universal_61 (by rfl) (by first | (rw [bI_e0 h49]; done) | (rw [bI_e1 h49]; done))
      · refine lv_iload hx hb d_Ref_universal_52 (lv_at hl 0 rfl) ?_
        refine lv_iconst (v := iI 1) hx hb d_Ref_universal_54 rfl ?_
        refine ri_isub hx hb d_Ref_universal_55 ?_
        refine lv_goto (tgt := 60) hx hb d_Ref_universal_56 (by decide) ?_
        refine ri_i (show (bI (rP1 (oI zi) (sI zi) (cN zi) eF gF t) + bI (rP2 (oI zi) (sI zi) (cN zi) eF gF t)) - 1 = ((rIx (rP1 (oI zi) (sI zi) (cN zi) eF gF t) (rP2 (oI zi) (sI zi) (cN zi) eF gF t) : Nat) : Int) from rIx_is gp) ?_
        refine g_lald (i := rIx (rP1 (oI zi) (sI zi) (cN zi) eF gF t) (rP2 (oI zi) (sI zi) (cN zi) eF gF t)) hx hb hK hP 8 2 rfl hJ d_Ref_universal_60 ?_ (by omega) (by decide)
        refine ri_v (congrArg Value.long (rFnd_u1 gp)) ?_
        exact m_lret hx hb hr hlk hP hS d_Ref_universal_61 (by rfl) (by first | (rw [bI_e0 h49]; done) | (rw [bI_e1 h49]; done))
    · exfalso; omega
  · exfalso; omega
abbrev rm_Ref_universal_n : Room := { frames := 3, cells := 0, slots := 0, locals := 82 }
set_option maxHeartbeats 4000000 in
set_option maxRecDepth 100000 in
theorem ct_Ref_universal_n (l : Launch) (D : va_G) (tys : List (ClassId × FieldType)) (mm : Nat) (tA : Nat) (oA : Nat) (sA : Nat) (eA : Nat) (gA : Nat) (cA : Nat) (rA : Nat) (fA : Nat) (fa : Int) (nn : Nat) (pl : Int) (yr : Int) (mn : Int) (dy : Int) (i : Nat) (cI : ClassId) (cJ : ClassId) (cG : ClassId) (cJJ : ClassId) (cGG : ClassId) (oI : Nat → Int) (sI : Nat → Int) (cN : Nat → Nat) (eR : Nat → Nat) (gR : Nat → Nat) (zi : Nat) (eF : Nat → Int) (gF : Nat → Bool) (fF : Nat → Int64) (t : Int) (lt : Bool) (hI : tys[1]? = some (cI, .int)) (hJ : tys[2]? = some (cJ, .long)) (hG : tys[3]? = some (cG, .boolean)) (hJJ : tys[5]? = some (cJJ, .array .long)) (hGG : tys[6]? = some (cGG, .array .boolean)) (gz : zi < 8) (gc : cN zi ≤ 660) (gE : ∀ k, k < 660 → -1000000000000000 ≤ eF k ∧ eF k ≤ 1000000000000000) (hs : evS (cN zi) eF gF) (go1 : -840 ≤ oI zi) (go2 : oI zi ≤ 840) (gs1 : 0 ≤ sI zi) (gs2 : sI zi ≤ 120) (gt1 : 0 ≤ t) (gt2 : t ≤ 10413791999999) (gp1 : rP1 (oI zi) (sI zi) (cN zi) eF gF t = false) (gp2 : rP2 (oI zi) (sI zi) (cN zi) eF gF t = false) : mMet l y_Ref_universal c_Ref_universal 6 (some .long) rm_Ref_universal_n D tys [.ref mm, .int (iI ((zi : Int))), .long (lL t), .int (iI (bI lt))] [(mm, .inr (4, [.int (iI fa), .ref tA, .int (iI ((nn : Int))), .int (iI pl), .int (iI yr), .int (iI mn), .int (iI dy), .int (iI ((i : Int))), .ref oA, .ref sA, .ref eA, .ref gA, .ref cA, .ref rA, .ref fA])), (oA, .inl (cI, 8, .inl (fun j => iI (oI j)))), (sA, .inl (cI, 8, .inl (fun j => iI (sI j)))), (eA, .inl (cJJ, 8, .inr (.inr (.inr (.inr (fun k => some (eR k))))))), (gA, .inl (cGG, 8, .inr (.inr (.inr (.inr (fun k => some (gR k))))))), (cA, .inl (cI, 8, .inl (fun j => iI (cN j : Int)))), (eR zi, .inl (cJ, 660, .inr (.inl (fun j => lL (eF j))))), (gR zi, .inl (cG, 660, .inl (fun j => iI (bI (gF j))))), (fA, .inl (cJ, 2, .inr (.inl fF)))] (some (.long (lL 0))) [(mm, .inr (4, [.int (iI 2), .ref tA, .int (iI ((nn : Int))), .int (iI pl), .int (iI yr), .int (iI mn), .int (iI dy), .int (iI ((i : Int))), .ref oA, .ref sA, .ref eA, .ref gA, .ref cA, .ref rA, .ref fA])), (oA, .inl (cI, 8, .inl (fun j => iI (oI j)))), (sA, .inl (cI, 8, .inl (fun j => iI (sI j)))), (eA, .inl (cJJ, 8, .inr (.inr (.inr (.inr (fun k => some (eR k))))))), (gA, .inl (cGG, 8, .inr (.inr (.inr (.inr (fun k => some (gR k))))))), (cA, .inl (cI, 8, .inl (fun j => iI (cN j : Int)))), (eR zi, .inl (cJ, 660, .inr (.inl (fun j => lL (eF j))))), (gR zi, .inl (cG, 660, .inl (fun j => iI (bI (gF j))))), (fA, .inl (cJ, 2, .inr (.inl (rFnd (rP1 (oI zi) (sI zi) (cN zi) eF gF t) (rP2 (oI zi) (sI zi) (cN zi) eF gF t) (rfA (oI zi) (sI zi) t) (rfB (oI zi) t) fF))))] := by
  refine mMet_of (by decide) (Nat.le_of_ble_eq_true rfl) ?_
  intro p e s m below meth c hx hb hr hown hlk hml hk hK hP hD hS ls hl
  have hl : lv_has ls 6 [(0, .ref mm), (1, .int (iI ((zi : Int)))), (2, .long (lL t)), (4, .int (iI (bI lt)))] := hl
  have g3 : bI (rP1 (oI zi) (sI zi) (cN zi) eF gF t) + bI (rP2 (oI zi) (sI zi) (cN zi) eF gF t) = 0 := by rw [gp1, gp2]; rfl
  refine lv_aload_n hx hb d_Ref_universal_0 rfl (lv_at hl 0 rfl) ?_
  refine lv_iconst (v := iI 0) hx hb d_Ref_universal_1 rfl ?_
  refine g_put hx hb hk hown hK hP hD hS 0 rfl f_Ref_44 fT_Ref rfl (rfl) rfl (Nat.le_of_ble_eq_true rfl) d_Ref_universal_2 (fun H locs hP hD hS => ?_)
  have hP : va_P D vwCl [(mm, .inr (4, [.int (iI 0), .ref tA, .int (iI ((nn : Int))), .int (iI pl), .int (iI yr), .int (iI mn), .int (iI dy), .int (iI ((i : Int))), .ref oA, .ref sA, .ref eA, .ref gA, .ref cA, .ref rA, .ref fA])), (oA, .inl (cI, 8, .inl (fun j => iI (oI j)))), (sA, .inl (cI, 8, .inl (fun j => iI (sI j)))), (eA, .inl (cJJ, 8, .inr (.inr (.inr (.inr (fun k => some (eR k))))))), (gA, .inl (cGG, 8, .inr (.inr (.inr (.inr (fun k => some (gR k))))))), (cA, .inl (cI, 8, .inl (fun j => iI (cN j : Int)))), (eR zi, .inl (cJ, 660, .inr (.inl (fun j => lL (eF j))))), (gR zi, .inl (cG, 660, .inl (fun j => iI (bI (gF j))))), (fA, .inl (cJ, 2, .inr (.inl fF)))] H := hP
  have hD : va_D (wA [(mm, .inr (4, [.int (iI fa), .ref tA, .int (iI ((nn : Int))), .int (iI pl), .int (iI yr), .int (iI mn), .int (iI dy), .int (iI ((i : Int))), .ref oA, .ref sA, .ref eA, .ref gA, .ref cA, .ref rA, .ref fA])), (oA, .inl (cI, 8, .inl (fun j => iI (oI j)))), (sA, .inl (cI, 8, .inl (fun j => iI (sI j)))), (eA, .inl (cJJ, 8, .inr (.inr (.inr (.inr (fun k => some (eR k))))))), (gA, .inl (cGG, 8, .inr (.inr (.inr (.inr (fun k => some (gR k))))))), (cA, .inl (cI, 8, .inl (fun j => iI (cN j : Int)))), (eR zi, .inl (cJ, 660, .inr (.inl (fun j => lL (eF j))))), (gR zi, .inl (cG, 660, .inl (fun j => iI (bI (gF j))))), (fA, .inl (cJ, 2, .inr (.inl fF)))]) [(mm, .inr (4, [.int (iI 0), .ref tA, .int (iI ((nn : Int))), .int (iI pl), .int (iI yr), .int (iI mn), .int (iI dy), .int (iI ((i : Int))), .ref oA, .ref sA, .ref eA, .ref gA, .ref cA, .ref rA, .ref fA])), (oA, .inl (cI, 8, .inl (fun j => iI (oI j)))), (sA, .inl (cI, 8, .inl (fun j => iI (sI j)))), (eA, .inl (cJJ, 8, .inr (.inr (.inr (.inr (fun k => some (eR k))))))), (gA, .inl (cGG, 8, .inr (.inr (.inr (.inr (fun k => some (gR k))))))), (cA, .inl (cI, 8, .inl (fun j => iI (cN j : Int)))), (eR zi, .inl (cJ, 660, .inr (.inl (fun j => lL (eF j))))), (gR zi, .inl (cG, 660, .inl (fun j => iI (bI (gF j))))), (fA, .inl (cJ, 2, .inr (.inl fF)))] := hD
  refine lv_aload_n hx hb d_Ref_universal_5 rfl (lv_at hl 0 rfl) ?_
  refine lv_iload_n hx hb d_Ref_universal_6 rfl (lv_at hl 1 rfl) ?_
  refine lv_lload_n hx hb d_Ref_universal_7 rfl (lv_at hl 2 rfl) ?_
  refine p_callV (rest := []) (q0 := 0) hx hb (hml.trans hl.1.symm) hown hk hK k_Ref_137 (ct_Ref_out l D tys mm tA oA sA eA gA cA rA fA 0 nn pl yr mn dy i ((zi : Int)) t (by omega) (by omega) (by omega) (by omega)) (w_subP (is := [0]) hP rfl) (w_subD (is := [0]) hD rfl rfl) rfl rfl rfl rfl ⟨rfl, rfl⟩ ⟨by decide, by decide, by decide, by decide⟩ (Nat.le_of_ble_eq_true rfl) d_Ref_universal_8 ?_
  have gO : zOutB (zi : Int) t = false := by unfold zOutB; exact decide_eq_false (by omega)
  have gO2 : bI (zOutB (zi : Int) t) = 0 := by rw [gO]; rfl
  refine ri_if_eq (tgt := 21) hx hb d_Ref_universal_11 (by decide) (fun h11 => ?_) (fun h11 => ?_)
  · refine lv_aload_n hx hb d_Ref_universal_21 rfl (lv_at hl 0 rfl) ?_
    refine lv_iload_n hx hb d_Ref_universal_22 rfl (lv_at hl 1 rfl) ?_
    refine lv_lload_n hx hb d_Ref_universal_23 rfl (lv_at hl 2 rfl) ?_
    refine m_callV (rest := []) (q0 := 0) hx hb (hml.trans hl.1.symm) hown hk hK k_Ref_148 (ct_Ref_find l D tys mm tA oA sA eA gA cA rA fA 0 nn pl yr mn dy i cI cJ cG cJJ cGG oI sI cN eR gR zi eF gF fF t hI hJ hG hJJ hGG gz gc gE hs go1 go2 gs1 gs2 (by omega) (by omega)) hP hD hS [0, 1, 2, 3, 4, 5, 6, 7, 8] rfl rfl rfl rfl rfl rfl rfl ⟨rfl, rfl⟩ ⟨by decide, by decide, by decide, by decide⟩ (Nat.le_of_ble_eq_true rfl) d_Ref_universal_24 (fun H locs hP hD hS => ?_)
    have hP : va_P D vwCl [(mm, .inr (4, [.int (iI 0), .ref tA, .int (iI ((nn : Int))), .int (iI pl), .int (iI yr), .int (iI mn), .int (iI dy), .int (iI ((i : Int))), .ref oA, .ref sA, .ref eA, .ref gA, .ref cA, .ref rA, .ref fA])), (oA, .inl (cI, 8, .inl (fun j => iI (oI j)))), (sA, .inl (cI, 8, .inl (fun j => iI (sI j)))), (eA, .inl (cJJ, 8, .inr (.inr (.inr (.inr (fun k => some (eR k))))))), (gA, .inl (cGG, 8, .inr (.inr (.inr (.inr (fun k => some (gR k))))))), (cA, .inl (cI, 8, .inl (fun j => iI (cN j : Int)))), (eR zi, .inl (cJ, 660, .inr (.inl (fun j => lL (eF j))))), (gR zi, .inl (cG, 660, .inl (fun j => iI (bI (gF j))))), (fA, .inl (cJ, 2, .inr (.inl (rFnd (rP1 (oI zi) (sI zi) (cN zi) eF gF t) (rP2 (oI zi) (sI zi) (cN zi) eF gF t) (rfA (oI zi) (sI zi) t) (rfB (oI zi) t) fF))))] H := hP
    have hD : va_D (wA [(mm, .inr (4, [.int (iI fa), .ref tA, .int (iI ((nn : Int))), .int (iI pl), .int (iI yr), .int (iI mn), .int (iI dy), .int (iI ((i : Int))), .ref oA, .ref sA, .ref eA, .ref gA, .ref cA, .ref rA, .ref fA])), (oA, .inl (cI, 8, .inl (fun j => iI (oI j)))), (sA, .inl (cI, 8, .inl (fun j => iI (sI j)))), (eA, .inl (cJJ, 8, .inr (.inr (.inr (.inr (fun k => some (eR k))))))), (gA, .inl (cGG, 8, .inr (.inr (.inr (.inr (fun k => some (gR k))))))), (cA, .inl (cI, 8, .inl (fun j => iI (cN j : Int)))), (eR zi, .inl (cJ, 660, .inr (.inl (fun j => lL (eF j))))), (gR zi, .inl (cG, 660, .inl (fun j => iI (bI (gF j))))), (fA, .inl (cJ, 2, .inr (.inl fF)))]) [(mm, .inr (4, [.int (iI 0), .ref tA, .int (iI ((nn : Int))), .int (iI pl), .int (iI yr), .int (iI mn), .int (iI dy), .int (iI ((i : Int))), .ref oA, .ref sA, .ref eA, .ref gA, .ref cA, .ref rA, .ref fA])), (oA, .inl (cI, 8, .inl (fun j => iI (oI j)))), (sA, .inl (cI, 8, .inl (fun j => iI (sI j)))), (eA, .inl (cJJ, 8, .inr (.inr (.inr (.inr (fun k => some (eR k))))))), (gA, .inl (cGG, 8, .inr (.inr (.inr (.inr (fun k => some (gR k))))))), (cA, .inl (cI, 8, .inl (fun j => iI (cN j : Int)))), (eR zi, .inl (cJ, 660, .inr (.inl (fun j => lL (eF j))))), (gR zi, .inl (cG, 660, .inl (fun j => iI (bI (gF j))))), (fA, .inl (cJ, 2, .inr (.inl (rFnd (rP1 (oI zi) (sI zi) (cN zi) eF gF t) (rP2 (oI zi) (sI zi) (cN zi) eF gF t) (rfA (oI zi) (sI zi) t) (rfB (oI zi) t) fF))))] := hD
    refine lv_istore (lv' := [(5, .int (iI (bI (rP1 (oI zi) (sI zi) (cN zi) eF gF t) + bI (rP2 (oI zi) (sI zi) (cN zi) eF gF t)))), (0, .ref mm), (1, .int (iI ((zi : Int)))), (2, .long (lL t)), (4, .int (iI (bI lt)))]) hx hb d_Ref_universal_27 hl (by decide) rfl (fun ls hl => ?_)
    refine lv_iload hx hb d_Ref_universal_29 (lv_at hl 0 rfl) ?_
    refine ri_if_ne (tgt := 43) hx hb d_Ref_universal_31 (by decide) (fun h31 => ?_) (fun h31 => ?_)
    · exfalso; omega
    · refine lv_aload_n hx hb d_Ref_universal_34 rfl (lv_at hl 1 rfl) ?_
      refine lv_iconst (v := iI 2) hx hb d_Ref_universal_35 rfl ?_
      refine m_callV (rest := []) (q0 := 0) hx hb (hml.trans hl.1.symm) hown hk hK k_Ref_141 (ct_Ref_fail l D tys mm tA oA sA eA gA cA rA fA 0 nn pl yr mn dy i 2 ) hP hD hS [0] rfl rfl rfl rfl rfl rfl rfl ⟨rfl, rfl⟩ ⟨by decide, by decide, by decide, by decide⟩ (Nat.le_of_ble_eq_true rfl) d_Ref_universal_36 (fun H locs hP hD hS => ?_)
      have hP : va_P D vwCl [(mm, .inr (4, [.int (iI 2), .ref tA, .int (iI ((nn : Int))), .int (iI pl), .int (iI yr), .int (iI mn), .int (iI dy), .int (iI ((i : Int))), .ref oA, .ref sA, .ref eA, .ref gA, .ref cA, .ref rA, .ref fA])), (oA, .inl (cI, 8, .inl (fun j => iI (oI j)))), (sA, .inl (cI, 8, .inl (fun j => iI (sI j)))), (eA, .inl (cJJ, 8, .inr (.inr (.inr (.inr (fun k => some (eR k))))))), (gA, .inl (cGG, 8, .inr (.inr (.inr (.inr (fun k => some (gR k))))))), (cA, .inl (cI, 8, .inl (fun j => iI (cN j : Int)))), (eR zi, .inl (cJ, 660, .inr (.inl (fun j => lL (eF j))))), (gR zi, .inl (cG, 660, .inl (fun j => iI (bI (gF j))))), (fA, .inl (cJ, 2, .inr (.inl (rFnd (rP1 (oI zi) (sI zi) (cN zi) eF gF t) (rP2 (oI zi) (sI zi) (cN zi) eF gF t) (rfA (oI zi) (sI zi) t) (rfB (oI zi) t) fF))))] H := hP
      have hD : va_D (wA [(mm, .inr (4, [.int (iI fa), .ref tA, .int (iI ((nn : Int))), .int (iI pl), .int (iI yr), .int (iI mn), .int (iI dy), .int (iI ((i : Int))), .ref oA, .ref sA, .ref eA, .ref gA, .ref cA, .ref rA, .ref fA])), (oA, .inl (cI, 8, .inl (fun j => iI (oI j)))), (sA, .inl (cI, 8, .inl (fun j => iI (sI j)))), (eA, .inl (cJJ, 8, .inr (.inr (.inr (.inr (fun k => some (eR k))))))), (gA, .inl (cGG, 8, .inr (.inr (.inr (.inr (fun k => some (gR k))))))), (cA, .inl (cI, 8, .inl (fun j => iI (cN j : Int)))), (eR zi, .inl (cJ, 660, .inr (.inl (fun j => lL (eF j))))), (gR zi, .inl (cG, 660, .inl (fun j => iI (bI (gF j))))), (fA, .inl (cJ, 2, .inr (.inl fF)))]) [(mm, .inr (4, [.int (iI 2), .ref tA, .int (iI ((nn : Int))), .int (iI pl), .int (iI yr), .int (iI mn), .int (iI dy), .int (iI ((i : Int))), .ref oA, .ref sA, .ref eA, .ref gA, .ref cA, .ref rA, .ref fA])), (oA, .inl (cI, 8, .inl (fun j => iI (oI j)))), (sA, .inl (cI, 8, .inl (fun j => iI (sI j)))), (eA, .inl (cJJ, 8, .inr (.inr (.inr (.inr (fun k => some (eR k))))))), (gA, .inl (cGG, 8, .inr (.inr (.inr (.inr (fun k => some (gR k))))))), (cA, .inl (cI, 8, .inl (fun j => iI (cN j : Int)))), (eR zi, .inl (cJ, 660, .inr (.inl (fun j => lL (eF j))))), (gR zi, .inl (cG, 660, .inl (fun j => iI (bI (gF j))))), (fA, .inl (cJ, 2, .inr (.inl (rFnd (rP1 (oI zi) (sI zi) (cN zi) eF gF t) (rP2 (oI zi) (sI zi) (cN zi) eF gF t) (rfA (oI zi) (sI zi) t) (rfB (oI zi) t) fF))))] := hD
      refine ri_i2l hx hb d_Ref_universal_39 ?_
      refine lv_goto (tgt := 61) hx hb d_Ref_universal_40 (by decide) ?_
      exact m_lret hx hb hr hlk hP hS d_Ref_universal_61 (by rfl) (by rfl)
  · exfalso; omega
abbrev rm_Ref_universal_b : Room := { frames := 1, cells := 0, slots := 0, locals := 25 }
set_option maxHeartbeats 4000000 in
set_option maxRecDepth 100000 in
theorem ct_Ref_universal_b (l : Launch) (D : va_G) (tys : List (ClassId × FieldType)) (mm : Nat) (tA : Nat) (oA : Nat) (sA : Nat) (eA : Nat) (gA : Nat) (cA : Nat) (rA : Nat) (fA : Nat) (fa : Int) (nn : Nat) (pl : Int) (yr : Int) (mn : Int) (dy : Int) (i : Nat) (z : Int) (t : Int) (lt : Bool) (gz1 : -2147483648 ≤ z) (gz2 : z ≤ 2147483647) (gi1 : -9223372036854775808 ≤ t) (gi2 : t ≤ 9223372036854775807) (gbad : z < 0 ∨ 7 < z ∨ t < 0 ∨ 10413791999999 < t) : mMet l y_Ref_universal c_Ref_universal 6 (some .long) rm_Ref_universal_b D tys [.ref mm, .int (iI z), .long (lL t), .int (iI (bI lt))] [(mm, .inr (4, [.int (iI fa), .ref tA, .int (iI ((nn : Int))), .int (iI pl), .int (iI yr), .int (iI mn), .int (iI dy), .int (iI ((i : Int))), .ref oA, .ref sA, .ref eA, .ref gA, .ref cA, .ref rA, .ref fA]))] (some (.long (lL 0))) [(mm, .inr (4, [.int (iI 1), .ref tA, .int (iI ((nn : Int))), .int (iI pl), .int (iI yr), .int (iI mn), .int (iI dy), .int (iI ((i : Int))), .ref oA, .ref sA, .ref eA, .ref gA, .ref cA, .ref rA, .ref fA]))] := by
  refine mMet_of (by decide) (Nat.le_of_ble_eq_true rfl) ?_
  intro p e s m below meth c hx hb hr hown hlk hml hk hK hP hD hS ls hl
  have hl : lv_has ls 6 [(0, .ref mm), (1, .int (iI z)), (2, .long (lL t)), (4, .int (iI (bI lt)))] := hl
  refine lv_aload_n hx hb d_Ref_universal_0 rfl (lv_at hl 0 rfl) ?_
  refine lv_iconst (v := iI 0) hx hb d_Ref_universal_1 rfl ?_
  refine g_put hx hb hk hown hK hP hD hS 0 rfl f_Ref_44 fT_Ref rfl (rfl) rfl (Nat.le_of_ble_eq_true rfl) d_Ref_universal_2 (fun H locs hP hD hS => ?_)
  have hP : va_P D vwCl [(mm, .inr (4, [.int (iI 0), .ref tA, .int (iI ((nn : Int))), .int (iI pl), .int (iI yr), .int (iI mn), .int (iI dy), .int (iI ((i : Int))), .ref oA, .ref sA, .ref eA, .ref gA, .ref cA, .ref rA, .ref fA]))] H := hP
  have hD : va_D (wA [(mm, .inr (4, [.int (iI fa), .ref tA, .int (iI ((nn : Int))), .int (iI pl), .int (iI yr), .int (iI mn), .int (iI dy), .int (iI ((i : Int))), .ref oA, .ref sA, .ref eA, .ref gA, .ref cA, .ref rA, .ref fA]))]) [(mm, .inr (4, [.int (iI 0), .ref tA, .int (iI ((nn : Int))), .int (iI pl), .int (iI yr), .int (iI mn), .int (iI dy), .int (iI ((i : Int))), .ref oA, .ref sA, .ref eA, .ref gA, .ref cA, .ref rA, .ref fA]))] := hD
  refine lv_aload_n hx hb d_Ref_universal_5 rfl (lv_at hl 0 rfl) ?_
  refine lv_iload_n hx hb d_Ref_universal_6 rfl (lv_at hl 1 rfl) ?_
  refine lv_lload_n hx hb d_Ref_universal_7 rfl (lv_at hl 2 rfl) ?_
  refine p_callV (rest := []) (q0 := 0) hx hb (hml.trans hl.1.symm) hown hk hK k_Ref_137 (ct_Ref_out l D tys mm tA oA sA eA gA cA rA fA 0 nn pl yr mn dy i z t (by omega) (by omega) (by omega) (by omega)) (w_subP (is := [0]) hP rfl) (w_subD (is := [0]) hD rfl rfl) rfl rfl rfl rfl ⟨rfl, rfl⟩ ⟨by decide, by decide, by decide, by decide⟩ (Nat.le_of_ble_eq_true rfl) d_Ref_universal_8 ?_
  have gO : zOutB z t = true := by unfold zOutB; exact decide_eq_true (by omega)
  have gO2 : bI (zOutB z t) = 1 := by rw [gO]; rfl
  refine ri_if_eq (tgt := 21) hx hb d_Ref_universal_11 (by decide) (fun h11 => ?_) (fun h11 => ?_)
  · exfalso; omega
  · refine lv_aload_n hx hb d_Ref_universal_14 rfl (lv_at hl 0 rfl) ?_
    refine lv_iconst (v := iI 1) hx hb d_Ref_universal_15 rfl ?_
    refine m_callV (rest := []) (q0 := 0) hx hb (hml.trans hl.1.symm) hown hk hK k_Ref_141 (ct_Ref_fail l D tys mm tA oA sA eA gA cA rA fA 0 nn pl yr mn dy i 1 ) hP hD hS [0] rfl rfl rfl rfl rfl rfl rfl ⟨rfl, rfl⟩ ⟨by decide, by decide, by decide, by decide⟩ (Nat.le_of_ble_eq_true rfl) d_Ref_universal_16 (fun H locs hP hD hS => ?_)
    have hP : va_P D vwCl [(mm, .inr (4, [.int (iI 1), .ref tA, .int (iI ((nn : Int))), .int (iI pl), .int (iI yr), .int (iI mn), .int (iI dy), .int (iI ((i : Int))), .ref oA, .ref sA, .ref eA, .ref gA, .ref cA, .ref rA, .ref fA]))] H := hP
    have hD : va_D (wA [(mm, .inr (4, [.int (iI fa), .ref tA, .int (iI ((nn : Int))), .int (iI pl), .int (iI yr), .int (iI mn), .int (iI dy), .int (iI ((i : Int))), .ref oA, .ref sA, .ref eA, .ref gA, .ref cA, .ref rA, .ref fA]))]) [(mm, .inr (4, [.int (iI 1), .ref tA, .int (iI ((nn : Int))), .int (iI pl), .int (iI yr), .int (iI mn), .int (iI dy), .int (iI ((i : Int))), .ref oA, .ref sA, .ref eA, .ref gA, .ref cA, .ref rA, .ref fA]))] := hD
    refine ri_i2l hx hb d_Ref_universal_19 ?_
    exact m_lret hx hb hr hlk hP hS d_Ref_universal_20 (by rfl) (by rfl)
abbrev rm_Ref_change : Room := { frames := 2, cells := 0, slots := 0, locals := 51 }
set_option maxHeartbeats 4000000 in
set_option maxRecDepth 100000 in
theorem ct_Ref_change (l : Launch) (D : va_G) (tys : List (ClassId × FieldType)) (mm : Nat) (tA : Nat) (oA : Nat) (sA : Nat) (eA : Nat) (gA : Nat) (cA : Nat) (rA : Nat) (fA : Nat) (fa : Int) (nn : Nat) (pl : Int) (yr : Int) (mn : Int) (dy : Int) (i : Nat) (cI : ClassId) (cJ : ClassId) (cG : ClassId) (cJJ : ClassId) (cGG : ClassId) (oI : Nat → Int) (sI : Nat → Int) (cN : Nat → Nat) (eR : Nat → Nat) (gR : Nat → Nat) (zi : Nat) (eF : Nat → Int) (gF : Nat → Bool) (t : Int) (bk : Bool) (hI : tys[1]? = some (cI, .int)) (hJ : tys[2]? = some (cJ, .long)) (hG : tys[3]? = some (cG, .boolean)) (hJJ : tys[5]? = some (cJJ, .array .long)) (hGG : tys[6]? = some (cGG, .array .boolean)) (gz : zi < 8) (gc : cN zi ≤ 660) (gE : ∀ k, k < 660 → -1000000000000000 ≤ eF k ∧ eF k ≤ 1000000000000000) (hs : evS (cN zi) eF gF) (go1 : -840 ≤ oI zi) (go2 : oI zi ≤ 840) (gs1 : 0 ≤ sI zi) (gs2 : sI zi ≤ 120) (gt1 : 0 ≤ t) (gt2 : t ≤ 10413791999999) : mMet l y_Ref_change c_Ref_change 6 (some .long) rm_Ref_change D tys [.ref mm, .int (iI ((zi : Int))), .long (lL t), .int (iI (bI bk))] [(mm, .inr (4, [.int (iI fa), .ref tA, .int (iI ((nn : Int))), .int (iI pl), .int (iI yr), .int (iI mn), .int (iI dy), .int (iI ((i : Int))), .ref oA, .ref sA, .ref eA, .ref gA, .ref cA, .ref rA, .ref fA])), (oA, .inl (cI, 8, .inl (fun j => iI (oI j)))), (sA, .inl (cI, 8, .inl (fun j => iI (sI j)))), (eA, .inl (cJJ, 8, .inr (.inr (.inr (.inr (fun k => some (eR k))))))), (gA, .inl (cGG, 8, .inr (.inr (.inr (.inr (fun k => some (gR k))))))), (cA, .inl (cI, 8, .inl (fun j => iI (cN j : Int)))), (eR zi, .inl (cJ, 660, .inr (.inl (fun j => lL (eF j))))), (gR zi, .inl (cG, 660, .inl (fun j => iI (bI (gF j)))))] (some (.long (lL (if bI bk = 0 then (if evK eF t (cN zi) = cN zi then -1 else eF (evK eF t (cN zi))) else (if evK eF t (cN zi) = 0 ∨ eF (evK eF t (cN zi) - 1) < 0 then -1 else eF (evK eF t (cN zi) - 1)))))) [(mm, .inr (4, [.int (iI 0), .ref tA, .int (iI ((nn : Int))), .int (iI pl), .int (iI yr), .int (iI mn), .int (iI dy), .int (iI ((i : Int))), .ref oA, .ref sA, .ref eA, .ref gA, .ref cA, .ref rA, .ref fA])), (oA, .inl (cI, 8, .inl (fun j => iI (oI j)))), (sA, .inl (cI, 8, .inl (fun j => iI (sI j)))), (eA, .inl (cJJ, 8, .inr (.inr (.inr (.inr (fun k => some (eR k))))))), (gA, .inl (cGG, 8, .inr (.inr (.inr (.inr (fun k => some (gR k))))))), (cA, .inl (cI, 8, .inl (fun j => iI (cN j : Int)))), (eR zi, .inl (cJ, 660, .inr (.inl (fun j => lL (eF j))))), (gR zi, .inl (cG, 660, .inl (fun j => iI (bI (gF j)))))] := by
  refine mMet_of (by decide) (Nat.le_of_ble_eq_true rfl) ?_
  intro p e s m below meth c hx hb hr hown hlk hml hk hK hP hD hS ls hl
  have hl : lv_has ls 6 [(0, .ref mm), (1, .int (iI ((zi : Int)))), (2, .long (lL t)), (4, .int (iI (bI bk)))] := hl
  have gK := evK_le eF t (cN zi)
  refine lv_aload_n hx hb d_Ref_change_0 rfl (lv_at hl 0 rfl) ?_
  refine lv_iconst (v := iI 0) hx hb d_Ref_change_1 rfl ?_
  refine g_put hx hb hk hown hK hP hD hS 0 rfl f_Ref_44 fT_Ref rfl (rfl) rfl (Nat.le_of_ble_eq_true rfl) d_Ref_change_2 (fun H locs hP hD hS => ?_)
  have hP : va_P D vwCl [(mm, .inr (4, [.int (iI 0), .ref tA, .int (iI ((nn : Int))), .int (iI pl), .int (iI yr), .int (iI mn), .int (iI dy), .int (iI ((i : Int))), .ref oA, .ref sA, .ref eA, .ref gA, .ref cA, .ref rA, .ref fA])), (oA, .inl (cI, 8, .inl (fun j => iI (oI j)))), (sA, .inl (cI, 8, .inl (fun j => iI (sI j)))), (eA, .inl (cJJ, 8, .inr (.inr (.inr (.inr (fun k => some (eR k))))))), (gA, .inl (cGG, 8, .inr (.inr (.inr (.inr (fun k => some (gR k))))))), (cA, .inl (cI, 8, .inl (fun j => iI (cN j : Int)))), (eR zi, .inl (cJ, 660, .inr (.inl (fun j => lL (eF j))))), (gR zi, .inl (cG, 660, .inl (fun j => iI (bI (gF j)))))] H := hP
  have hD : va_D (wA [(mm, .inr (4, [.int (iI fa), .ref tA, .int (iI ((nn : Int))), .int (iI pl), .int (iI yr), .int (iI mn), .int (iI dy), .int (iI ((i : Int))), .ref oA, .ref sA, .ref eA, .ref gA, .ref cA, .ref rA, .ref fA])), (oA, .inl (cI, 8, .inl (fun j => iI (oI j)))), (sA, .inl (cI, 8, .inl (fun j => iI (sI j)))), (eA, .inl (cJJ, 8, .inr (.inr (.inr (.inr (fun k => some (eR k))))))), (gA, .inl (cGG, 8, .inr (.inr (.inr (.inr (fun k => some (gR k))))))), (cA, .inl (cI, 8, .inl (fun j => iI (cN j : Int)))), (eR zi, .inl (cJ, 660, .inr (.inl (fun j => lL (eF j))))), (gR zi, .inl (cG, 660, .inl (fun j => iI (bI (gF j)))))]) [(mm, .inr (4, [.int (iI 0), .ref tA, .int (iI ((nn : Int))), .int (iI pl), .int (iI yr), .int (iI mn), .int (iI dy), .int (iI ((i : Int))), .ref oA, .ref sA, .ref eA, .ref gA, .ref cA, .ref rA, .ref fA])), (oA, .inl (cI, 8, .inl (fun j => iI (oI j)))), (sA, .inl (cI, 8, .inl (fun j => iI (sI j)))), (eA, .inl (cJJ, 8, .inr (.inr (.inr (.inr (fun k => some (eR k))))))), (gA, .inl (cGG, 8, .inr (.inr (.inr (.inr (fun k => some (gR k))))))), (cA, .inl (cI, 8, .inl (fun j => iI (cN j : Int)))), (eR zi, .inl (cJ, 660, .inr (.inl (fun j => lL (eF j))))), (gR zi, .inl (cG, 660, .inl (fun j => iI (bI (gF j)))))] := hD
  refine lv_aload_n hx hb d_Ref_change_5 rfl (lv_at hl 0 rfl) ?_
  refine lv_iload_n hx hb d_Ref_change_6 rfl (lv_at hl 1 rfl) ?_
  refine lv_lload_n hx hb d_Ref_change_7 rfl (lv_at hl 2 rfl) ?_
  refine p_callV (rest := []) (q0 := 0) hx hb (hml.trans hl.1.symm) hown hk hK k_Ref_137 (ct_Ref_out l D tys mm tA oA sA eA gA cA rA fA 0 nn pl yr mn dy i ((zi : Int)) t (by omega) (by omega) (by omega) (by omega)) (w_subP (is := [0]) hP rfl) (w_subD (is := [0]) hD rfl rfl) rfl rfl rfl rfl ⟨rfl, rfl⟩ ⟨by decide, by decide, by decide, by decide⟩ (Nat.le_of_ble_eq_true rfl) d_Ref_change_8 ?_
  have gO : zOutB (zi : Int) t = false := by unfold zOutB; exact decide_eq_false (by omega)
  have gO2 : bI (zOutB (zi : Int) t) = 0 := by rw [gO]; rfl
  refine ri_if_eq (tgt := 21) hx hb d_Ref_change_11 (by decide) (fun h11 => ?_) (fun h11 => ?_)
  · refine lv_aload_n hx hb d_Ref_change_21 rfl (lv_at hl 0 rfl) ?_
    refine lv_iload_n hx hb d_Ref_change_22 rfl (lv_at hl 1 rfl) ?_
    refine lv_lload_n hx hb d_Ref_change_23 rfl (lv_at hl 2 rfl) ?_
    refine p_callV (rest := []) (q0 := 0) hx hb (hml.trans hl.1.symm) hown hk hK k_Ref_128 (ct_Ref_passed l D tys mm tA oA sA eA gA cA rA fA 0 nn pl yr mn dy i cI cJ cG cJJ cGG oI sI cN eR gR zi eF gF t hI hJ hG hJJ hGG gz gc gE hs (by omega) (by omega)) (w_subP (is := [0, 1, 2, 3, 4, 5, 6, 7]) hP rfl) (w_subD (is := [0, 1, 2, 3, 4, 5, 6, 7]) hD rfl rfl) rfl rfl rfl rfl ⟨rfl, rfl⟩ ⟨by decide, by decide, by decide, by decide⟩ (Nat.le_of_ble_eq_true rfl) d_Ref_change_24 ?_
    refine lv_istore (lv' := [(5, .int (iI (((evK eF t (cN zi) : Nat) : Int)))), (0, .ref mm), (1, .int (iI ((zi : Int)))), (2, .long (lL t)), (4, .int (iI (bI bk)))]) hx hb d_Ref_change_27 hl (by decide) rfl (fun ls hl => ?_)
    refine lv_iload hx hb d_Ref_change_29 (lv_at hl 4 rfl) ?_
    have gL := bI_b bk
    refine ri_if_eq (tgt := 73) hx hb d_Ref_change_31 (by decide) (fun h31 => ?_) (fun h31 => ?_)
    · refine lv_iload hx hb d_Ref_change_73 (lv_at hl 0 rfl) ?_
      refine lv_aload_n hx hb d_Ref_change_75 rfl (lv_at hl 1 rfl) ?_
      refine g_get hx hb hk hown hK hP 0 rfl f_Ref_34 rfl d_Ref_change_76 ?_
      refine lv_iload_n hx hb d_Ref_change_79 rfl (lv_at hl 2 rfl) ?_
      refine g_iald (i := zi) hx hb hK hP 5 1 rfl hI d_Ref_change_80 ?_
      refine ri_icmp_ne (tgt := 90) hx hb d_Ref_change_81 (by decide) (fun h81 => ?_) (fun h81 => ?_)
      · refine lv_aload_n hx hb d_Ref_change_90 rfl (lv_at hl 1 rfl) ?_
        refine g_get hx hb hk hown hK hP 0 rfl f_Ref_26 rfl d_Ref_change_91 ?_
        refine lv_iload_n hx hb d_Ref_change_94 rfl (lv_at hl 2 rfl) ?_
        refine g_aald (i := zi) hx hb hK hP 3 5 rfl hJJ rfl (rfl) d_Ref_change_95 ?_
        refine lv_iload hx hb d_Ref_change_96 (lv_at hl 0 rfl) ?_
        refine g_lald (i := evK eF t (cN zi)) hx hb hK hP 6 2 rfl hJ d_Ref_change_98 ?_ (by omega) (by decide)
        exact m_lret hx hb hr hlk hP hS d_Ref_change_99 (by rfl) (by first | (rw [if_pos h31, if_pos (by omega)]; done) | (rw [if_pos h31, if_neg (by omega)]; done) | (rw [if_neg h31, if_pos (by omega)]; done) | (rw [if_neg h31, if_neg (by omega)]; done))
      · refine lv_ldc2 (v := lL (-1)) hx hb hown (hk _ kc_Ref_151 _) d_Ref_change_84 ?_
        refine lv_goto (tgt := 99) hx hb d_Ref_change_87 (by decide) ?_
        exact m_lret hx hb hr hlk hP hS d_Ref_change_99 (by rfl) (by first | (rw [if_pos h31, if_pos (by omega)]; done) | (rw [if_pos h31, if_neg (by omega)]; done) | (rw [if_neg h31, if_pos (by omega)]; done) | (rw [if_neg h31, if_neg (by omega)]; done))
    · refine lv_iload hx hb d_Ref_change_34 (lv_at hl 0 rfl) ?_
      refine ri_if_eq (tgt := 55) hx hb d_Ref_change_36 (by decide) (fun h36 => ?_) (fun h36 => ?_)
      · refine lv_ldc2 (v := lL (-1)) hx hb hown (hk _ kc_Ref_151 _) d_Ref_change_55 ?_
        refine lv_goto (tgt := 72) hx hb d_Ref_change_58 (by decide) ?_
        exact m_lret hx hb hr hlk hP hS d_Ref_change_72 (by rfl) (by first | (rw [if_pos h31, if_pos (by omega)]; done) | (rw [if_pos h31, if_neg (by omega)]; done) | (rw [if_neg h31, if_pos (by omega)]; done) | (rw [if_neg h31, if_neg (by omega)]; done))
      · refine lv_aload_n hx hb d_Ref_change_39 rfl (lv_at hl 1 rfl) ?_
        refine g_get hx hb hk hown hK hP 0 rfl f_Ref_26 rfl d_Ref_change_40 ?_
        refine lv_iload_n hx hb d_Ref_change_43 rfl (lv_at hl 2 rfl) ?_
        refine g_aald (i := zi) hx hb hK hP 3 5 rfl hJJ rfl (rfl) d_Ref_change_44 ?_
        refine lv_iload hx hb d_Ref_change_45 (lv_at hl 0 rfl) ?_
        refine lv_iconst (v := iI 1) hx hb d_Ref_change_47 rfl ?_
        refine ri_isub hx hb d_Ref_change_48 ?_
        refine ri_i (show (((evK eF t (cN zi) : Nat) : Int)) - 1 = ((evK eF t (cN zi) - 1 : Nat) : Int) from by omega) ?_
        refine g_lald (i := evK eF t (cN zi) - 1) hx hb hK hP 6 2 rfl hJ d_Ref_change_49 ?_ (by omega) (by decide)
        have gm := gE (evK eF t (cN zi) - 1) (by omega)
        refine lv_lconst (v := lL 0) hx hb d_Ref_change_50 (by decide) ?_
        refine ri_lcmp_ge (tgt := 61) hx hb d_Ref_change_51 d_Ref_change_52 (by decide) (fun h51 => ?_) (fun h51 => ?_)
        · refine lv_aload_n hx hb d_Ref_change_61 rfl (lv_at hl 1 rfl) ?_
          refine g_get hx hb hk hown hK hP 0 rfl f_Ref_26 rfl d_Ref_change_62 ?_
          refine lv_iload_n hx hb d_Ref_change_65 rfl (lv_at hl 2 rfl) ?_
          refine g_aald (i := zi) hx hb hK hP 3 5 rfl hJJ rfl (rfl) d_Ref_change_66 ?_
          refine lv_iload hx hb d_Ref_change_67 (lv_at hl 0 rfl) ?_
          refine lv_iconst (v := iI 1) hx hb d_Ref_change_69 rfl ?_
          refine ri_isub hx hb d_Ref_change_70 ?_
          refine ri_i (show (((evK eF t (cN zi) : Nat) : Int)) - 1 = ((evK eF t (cN zi) - 1 : Nat) : Int) from by omega) ?_
          refine g_lald (i := evK eF t (cN zi) - 1) hx hb hK hP 6 2 rfl hJ d_Ref_change_71 ?_ (by omega) (by decide)
          exact m_lret hx hb hr hlk hP hS d_Ref_change_72 (by rfl) (by first | (rw [if_pos h31, if_pos (by omega)]; done) | (rw [if_pos h31, if_neg (by omega)]; done) | (rw [if_neg h31, if_pos (by omega)]; done) | (rw [if_neg h31, if_neg (by omega)]; done))
        · refine lv_ldc2 (v := lL (-1)) hx hb hown (hk _ kc_Ref_151 _) d_Ref_change_55 ?_
          refine lv_goto (tgt := 72) hx hb d_Ref_change_58 (by decide) ?_
          exact m_lret hx hb hr hlk hP hS d_Ref_change_72 (by rfl) (by first | (rw [if_pos h31, if_pos (by omega)]; done) | (rw [if_pos h31, if_neg (by omega)]; done) | (rw [if_neg h31, if_pos (by omega)]; done) | (rw [if_neg h31, if_neg (by omega)]; done))
  · exfalso; omega
abbrev rm_Ref_change_b : Room := { frames := 1, cells := 0, slots := 0, locals := 25 }
set_option maxHeartbeats 4000000 in
set_option maxRecDepth 100000 in
theorem ct_Ref_change_b (l : Launch) (D : va_G) (tys : List (ClassId × FieldType)) (mm : Nat) (tA : Nat) (oA : Nat) (sA : Nat) (eA : Nat) (gA : Nat) (cA : Nat) (rA : Nat) (fA : Nat) (fa : Int) (nn : Nat) (pl : Int) (yr : Int) (mn : Int) (dy : Int) (i : Nat) (z : Int) (t : Int) (bk : Bool) (gz1 : -2147483648 ≤ z) (gz2 : z ≤ 2147483647) (gi1 : -9223372036854775808 ≤ t) (gi2 : t ≤ 9223372036854775807) (gbad : z < 0 ∨ 7 < z ∨ t < 0 ∨ 10413791999999 < t) : mMet l y_Ref_change c_Ref_change 6 (some .long) rm_Ref_change_b D tys [.ref mm, .int (iI z), .long (lL t), .int (iI (bI bk))] [(mm, .inr (4, [.int (iI fa), .ref tA, .int (iI ((nn : Int))), .int (iI pl), .int (iI yr), .int (iI mn), .int (iI dy), .int (iI ((i : Int))), .ref oA, .ref sA, .ref eA, .ref gA, .ref cA, .ref rA, .ref fA]))] (some (.long (lL 0))) [(mm, .inr (4, [.int (iI 1), .ref tA, .int (iI ((nn : Int))), .int (iI pl), .int (iI yr), .int (iI mn), .int (iI dy), .int (iI ((i : Int))), .ref oA, .ref sA, .ref eA, .ref gA, .ref cA, .ref rA, .ref fA]))] := by
  refine mMet_of (by decide) (Nat.le_of_ble_eq_true rfl) ?_
  intro p e s m below meth c hx hb hr hown hlk hml hk hK hP hD hS ls hl
  have hl : lv_has ls 6 [(0, .ref mm), (1, .int (iI z)), (2, .long (lL t)), (4, .int (iI (bI bk)))] := hl
  refine lv_aload_n hx hb d_Ref_change_0 rfl (lv_at hl 0 rfl) ?_
  refine lv_iconst (v := iI 0) hx hb d_Ref_change_1 rfl ?_
  refine g_put hx hb hk hown hK hP hD hS 0 rfl f_Ref_44 fT_Ref rfl (rfl) rfl (Nat.le_of_ble_eq_true rfl) d_Ref_change_2 (fun H locs hP hD hS => ?_)
  have hP : va_P D vwCl [(mm, .inr (4, [.int (iI 0), .ref tA, .int (iI ((nn : Int))), .int (iI pl), .int (iI yr), .int (iI mn), .int (iI dy), .int (iI ((i : Int))), .ref oA, .ref sA, .ref eA, .ref gA, .ref cA, .ref rA, .ref fA]))] H := hP
  have hD : va_D (wA [(mm, .inr (4, [.int (iI fa), .ref tA, .int (iI ((nn : Int))), .int (iI pl), .int (iI yr), .int (iI mn), .int (iI dy), .int (iI ((i : Int))), .ref oA, .ref sA, .ref eA, .ref gA, .ref cA, .ref rA, .ref fA]))]) [(mm, .inr (4, [.int (iI 0), .ref tA, .int (iI ((nn : Int))), .int (iI pl), .int (iI yr), .int (iI mn), .int (iI dy), .int (iI ((i : Int))), .ref oA, .ref sA, .ref eA, .ref gA, .ref cA, .ref rA, .ref fA]))] := hD
  refine lv_aload_n hx hb d_Ref_change_5 rfl (lv_at hl 0 rfl) ?_
  refine lv_iload_n hx hb d_Ref_change_6 rfl (lv_at hl 1 rfl) ?_
  refine lv_lload_n hx hb d_Ref_change_7 rfl (lv_at hl 2 rfl) ?_
  refine p_callV (rest := []) (q0 := 0) hx hb (hml.trans hl.1.symm) hown hk hK k_Ref_137 (ct_Ref_out l D tys mm tA oA sA eA gA cA rA fA 0 nn pl yr mn dy i z t (by omega) (by omega) (by omega) (by omega)) (w_subP (is := [0]) hP rfl) (w_subD (is := [0]) hD rfl rfl) rfl rfl rfl rfl ⟨rfl, rfl⟩ ⟨by decide, by decide, by decide, by decide⟩ (Nat.le_of_ble_eq_true rfl) d_Ref_change_8 ?_
  have gO : zOutB z t = true := by unfold zOutB; exact decide_eq_true (by omega)
  have gO2 : bI (zOutB z t) = 1 := by rw [gO]; rfl
  refine ri_if_eq (tgt := 21) hx hb d_Ref_change_11 (by decide) (fun h11 => ?_) (fun h11 => ?_)
  · exfalso; omega
  · refine lv_aload_n hx hb d_Ref_change_14 rfl (lv_at hl 0 rfl) ?_
    refine lv_iconst (v := iI 1) hx hb d_Ref_change_15 rfl ?_
    refine m_callV (rest := []) (q0 := 0) hx hb (hml.trans hl.1.symm) hown hk hK k_Ref_141 (ct_Ref_fail l D tys mm tA oA sA eA gA cA rA fA 0 nn pl yr mn dy i 1 ) hP hD hS [0] rfl rfl rfl rfl rfl rfl rfl ⟨rfl, rfl⟩ ⟨by decide, by decide, by decide, by decide⟩ (Nat.le_of_ble_eq_true rfl) d_Ref_change_16 (fun H locs hP hD hS => ?_)
    have hP : va_P D vwCl [(mm, .inr (4, [.int (iI 1), .ref tA, .int (iI ((nn : Int))), .int (iI pl), .int (iI yr), .int (iI mn), .int (iI dy), .int (iI ((i : Int))), .ref oA, .ref sA, .ref eA, .ref gA, .ref cA, .ref rA, .ref fA]))] H := hP
    have hD : va_D (wA [(mm, .inr (4, [.int (iI fa), .ref tA, .int (iI ((nn : Int))), .int (iI pl), .int (iI yr), .int (iI mn), .int (iI dy), .int (iI ((i : Int))), .ref oA, .ref sA, .ref eA, .ref gA, .ref cA, .ref rA, .ref fA]))]) [(mm, .inr (4, [.int (iI 1), .ref tA, .int (iI ((nn : Int))), .int (iI pl), .int (iI yr), .int (iI mn), .int (iI dy), .int (iI ((i : Int))), .ref oA, .ref sA, .ref eA, .ref gA, .ref cA, .ref rA, .ref fA]))] := hD
    refine ri_i2l hx hb d_Ref_change_19 ?_
    exact m_lret hx hb hr hlk hP hS d_Ref_change_20 (by rfl) (by rfl)
abbrev rm_Ref_date : Room := { frames := 3, cells := 0, slots := 0, locals := 65 }
set_option maxHeartbeats 4000000 in
set_option maxRecDepth 100000 in
theorem ct_Ref_date (l : Launch) (D : va_G) (tys : List (ClassId × FieldType)) (mm : Nat) (tA : Nat) (oA : Nat) (sA : Nat) (eA : Nat) (gA : Nat) (cA : Nat) (rA : Nat) (fA : Nat) (fa : Int) (nn : Nat) (pl : Int) (yr : Int) (mn : Int) (dy : Int) (i : Nat) (dn : Int) (gd1 : -365 ≤ dn) (gd2 : dn ≤ 122000) : mMet l y_Ref_date c_Ref_date 3 none rm_Ref_date D tys [.ref mm, .int (iI dn)] [(mm, .inr (4, [.int (iI fa), .ref tA, .int (iI ((nn : Int))), .int (iI pl), .int (iI yr), .int (iI mn), .int (iI dy), .int (iI ((i : Int))), .ref oA, .ref sA, .ref eA, .ref gA, .ref cA, .ref rA, .ref fA]))] none [(mm, .inr (4, [.int (iI fa), .ref tA, .int (iI ((nn : Int))), .int (iI pl), .int (iI (cY dn)), .int (iI (cMo (cY dn) dn)), .int (iI (dn - cFD (cY dn) (cMo (cY dn) dn) + 1)), .int (iI ((i : Int))), .ref oA, .ref sA, .ref eA, .ref gA, .ref cA, .ref rA, .ref fA]))] := by
  refine mMet_of (by decide) (Nat.le_of_ble_eq_true rfl) ?_
  intro p e s m below meth c hx hb hr hown hlk hml hk hK hP hD hS ls hl
  have hl : lv_has ls 3 [(0, .ref mm), (1, .int (iI dn))] := hl
  have gY := cY_b gd1 gd2
  have gLo := cY_lo gd1 gd2
  have gHi := cY_hi gd1 gd2
  refine lv_aload_n hx hb d_Ref_date_0 rfl (lv_at hl 0 rfl) ?_
  refine lv_sipush (v := iI 1970) hx hb d_Ref_date_1 (by decide) ?_
  refine lv_iload_n hx hb d_Ref_date_4 rfl (lv_at hl 1 rfl) ?_
  refine lv_sipush (v := iI 365) hx hb d_Ref_date_5 (by decide) ?_
  refine p_callS (rest := [.int (iI 1970), .ref mm]) hx hb (hml.trans hl.1.symm) hown hk hK k_Ref_55 (ct_Math_floorDivI l D tys dn 365 (by omega) (by omega) (by omega) (by omega)) nil_P nil_D rfl rfl ⟨rfl, rfl⟩ ⟨by decide, by decide, by decide, by decide⟩ (Nat.le_of_ble_eq_true rfl) d_Ref_date_8 ?_
  refine ri_iadd hx hb d_Ref_date_11 ?_
  refine g_put hx hb hk hown hK hP hD hS 0 rfl f_Ref_60 fT_Ref rfl (rfl) rfl (Nat.le_of_ble_eq_true rfl) d_Ref_date_12 (fun H locs hP hD hS => ?_)
  have hP : va_P D vwCl [(mm, .inr (4, [.int (iI fa), .ref tA, .int (iI ((nn : Int))), .int (iI pl), .int (iI (1970 + (dn / 365))), .int (iI mn), .int (iI dy), .int (iI ((i : Int))), .ref oA, .ref sA, .ref eA, .ref gA, .ref cA, .ref rA, .ref fA]))] H := hP
  have hD : va_D (wA [(mm, .inr (4, [.int (iI fa), .ref tA, .int (iI ((nn : Int))), .int (iI pl), .int (iI yr), .int (iI mn), .int (iI dy), .int (iI ((i : Int))), .ref oA, .ref sA, .ref eA, .ref gA, .ref cA, .ref rA, .ref fA]))]) [(mm, .inr (4, [.int (iI fa), .ref tA, .int (iI ((nn : Int))), .int (iI pl), .int (iI (1970 + (dn / 365))), .int (iI mn), .int (iI dy), .int (iI ((i : Int))), .ref oA, .ref sA, .ref eA, .ref gA, .ref cA, .ref rA, .ref fA]))] := hD
  refine lv_aload_n hx hb d_Ref_date_15 rfl (lv_at hl 0 rfl) ?_
  refine g_get hx hb hk hown hK hP 0 rfl f_Ref_60 rfl d_Ref_date_16 ?_
  refine lv_iconst (v := iI 1) hx hb d_Ref_date_19 rfl ?_
  refine p_callS (rest := []) hx hb (hml.trans hl.1.symm) hown hk hK k_Ref_63 (ct_Ref_number l D tys (1970 + (dn / 365)) 1 (by omega) (by omega) (by omega) (by omega)) nil_P nil_D rfl rfl ⟨rfl, rfl⟩ ⟨by decide, by decide, by decide, by decide⟩ (Nat.le_of_ble_eq_true rfl) d_Ref_date_20 ?_
  have gN := cFD_b (y := 1970 + (dn / 365)) (mo := 1) (by omega) (by omega) (by omega) (by omega)
  refine lv_iload_n hx hb d_Ref_date_23 rfl (lv_at hl 1 rfl) ?_
  refine ri_icmp_le (tgt := 40) hx hb d_Ref_date_24 (by decide) (fun h24 => ?_) (fun h24 => ?_)
  · have eY : cY dn = 1970 + (dn / 365) := by unfold cY; rw [if_neg (by have := cFD_1 (1970 + dn / 365); omega)]
    have hP : va_P D vwCl [(mm, .inr (4, [.int (iI fa), .ref tA, .int (iI ((nn : Int))), .int (iI pl), .int (iI (cY dn)), .int (iI mn), .int (iI dy), .int (iI ((i : Int))), .ref oA, .ref sA, .ref eA, .ref gA, .ref cA, .ref rA, .ref fA]))] H := by rw [eY]; exact hP
    have hD : va_D (wA [(mm, .inr (4, [.int (iI fa), .ref tA, .int (iI ((nn : Int))), .int (iI pl), .int (iI yr), .int (iI mn), .int (iI dy), .int (iI ((i : Int))), .ref oA, .ref sA, .ref eA, .ref gA, .ref cA, .ref rA, .ref fA]))]) [(mm, .inr (4, [.int (iI fa), .ref tA, .int (iI ((nn : Int))), .int (iI pl), .int (iI (cY dn)), .int (iI mn), .int (iI dy), .int (iI ((i : Int))), .ref oA, .ref sA, .ref eA, .ref gA, .ref cA, .ref rA, .ref fA]))] := by rw [eY]; exact hD
    clear eY
    refine lv_iload_n hx hb d_Ref_date_40 rfl (lv_at hl 1 rfl) ?_
    refine lv_aload_n hx hb d_Ref_date_41 rfl (lv_at hl 0 rfl) ?_
    refine g_get hx hb hk hown hK hP 0 rfl f_Ref_60 rfl d_Ref_date_42 ?_
    refine lv_iconst (v := iI 1) hx hb d_Ref_date_45 rfl ?_
    refine p_callS (rest := [.int (iI dn)]) hx hb (hml.trans hl.1.symm) hown hk hK k_Ref_63 (ct_Ref_number l D tys (cY dn) 1 (by omega) (by omega) (by omega) (by omega)) nil_P nil_D rfl rfl ⟨rfl, rfl⟩ ⟨by decide, by decide, by decide, by decide⟩ (Nat.le_of_ble_eq_true rfl) d_Ref_date_46 ?_
    have gN := cFD_b (y := cY dn) (mo := 1) (by omega) (by omega) (by omega) (by omega)
    refine ri_isub hx hb d_Ref_date_49 ?_
    refine lv_istore_n (lv' := [(2, .int (iI (dn - (cFD (cY dn) 1)))), (0, .ref mm), (1, .int (iI dn))]) hx hb d_Ref_date_50 rfl hl (by decide) rfl (fun ls hl => ?_)
    refine lv_aload_n hx hb d_Ref_date_51 rfl (lv_at hl 1 rfl) ?_
    refine lv_iconst (v := iI 1) hx hb d_Ref_date_52 rfl ?_
    refine g_put hx hb hk hown hK hP hD hS 0 rfl f_Ref_66 fT_Ref rfl (rfl) rfl (Nat.le_of_ble_eq_true rfl) d_Ref_date_53 (fun H locs hP hD hS => ?_)
    have hP : va_P D vwCl [(mm, .inr (4, [.int (iI fa), .ref tA, .int (iI ((nn : Int))), .int (iI pl), .int (iI (cY dn)), .int (iI 1), .int (iI dy), .int (iI ((i : Int))), .ref oA, .ref sA, .ref eA, .ref gA, .ref cA, .ref rA, .ref fA]))] H := hP
    have hD : va_D (wA [(mm, .inr (4, [.int (iI fa), .ref tA, .int (iI ((nn : Int))), .int (iI pl), .int (iI yr), .int (iI mn), .int (iI dy), .int (iI ((i : Int))), .ref oA, .ref sA, .ref eA, .ref gA, .ref cA, .ref rA, .ref fA]))]) [(mm, .inr (4, [.int (iI fa), .ref tA, .int (iI ((nn : Int))), .int (iI pl), .int (iI (cY dn)), .int (iI 1), .int (iI dy), .int (iI ((i : Int))), .ref oA, .ref sA, .ref eA, .ref gA, .ref cA, .ref rA, .ref fA]))] := hD
    have loop56 : ∀ (n : Nat) (k : Int) (ls : Array Slot) (H : Heap) (locs : List Loc), (1 ≤ k) → (k ≤ 12) → (cFD (cY dn) k ≤ dn) → (cMo (cY dn) dn = cMoF (cY dn) dn (12 - k).toNat k) → (12 - k).toNat = n → va_P D vwCl [(mm, .inr (4, [.int (iI fa), .ref tA, .int (iI ((nn : Int))), .int (iI pl), .int (iI (cY dn)), .int (iI k), .int (iI dy), .int (iI ((i : Int))), .ref oA, .ref sA, .ref eA, .ref gA, .ref cA, .ref rA, .ref fA]))] H → va_D (wA [(mm, .inr (4, [.int (iI fa), .ref tA, .int (iI ((nn : Int))), .int (iI pl), .int (iI yr), .int (iI mn), .int (iI dy), .int (iI ((i : Int))), .ref oA, .ref sA, .ref eA, .ref gA, .ref cA, .ref rA, .ref fA]))]) [(mm, .inr (4, [.int (iI fa), .ref tA, .int (iI ((nn : Int))), .int (iI pl), .int (iI (cY dn)), .int (iI k), .int (iI dy), .int (iI ((i : Int))), .ref oA, .ref sA, .ref eA, .ref gA, .ref cA, .ref rA, .ref fA]))] → va_S (wA [(mm, .inr (4, [.int (iI fa), .ref tA, .int (iI ((nn : Int))), .int (iI pl), .int (iI yr), .int (iI mn), .int (iI dy), .int (iI ((i : Int))), .ref oA, .ref sA, .ref eA, .ref gA, .ref cA, .ref rA, .ref fA]))]) s.heap H locs → lv_has ls 3 [(2, .int (iI (dn - cFD (cY dn) k))), (0, .ref mm), (1, .int (iI dn))] → W p l e rm_Ref_date s m ([.ref mm, .int (iI dn)] : List Value).toArray below meth c H locs 0 0 (MQ below (mQ D [(mm, .inr (4, [.int (iI fa), .ref tA, .int (iI ((nn : Int))), .int (iI pl), .int (iI yr), .int (iI mn), .int (iI dy), .int (iI ((i : Int))), .ref oA, .ref sA, .ref eA, .ref gA, .ref cA, .ref rA, .ref fA]))] none [(mm, .inr (4, [.int (iI fa), .ref tA, .int (iI ((nn : Int))), .int (iI pl), .int (iI (cY dn)), .int (iI (cMo (cY dn) dn)), .int (iI (dn - cFD (cY dn) (cMo (cY dn) dn) + 1)), .int (iI ((i : Int))), .ref oA, .ref sA, .ref eA, .ref gA, .ref cA, .ref rA, .ref fA]))]) ([.ref mm, .int (iI dn)] : List Value).toArray s 0 0 (wA [(mm, .inr (4, [.int (iI fa), .ref tA, .int (iI ((nn : Int))), .int (iI pl), .int (iI yr), .int (iI mn), .int (iI dy), .int (iI ((i : Int))), .ref oA, .ref sA, .ref eA, .ref gA, .ref cA, .ref rA, .ref fA]))])) (F0 m 56 ls []) := by
      intro n
      induction n using Nat.strongRecOn with
      | _ n ih =>
      intro k ls H locs hk1 hk2 hkd hv hn hP hD hS hl
      refine lv_iload_n hx hb d_Ref_date_56 rfl (lv_at hl 0 rfl) ?_
      refine lv_aload_n hx hb d_Ref_date_57 rfl (lv_at hl 1 rfl) ?_
      refine g_get hx hb hk hown hK hP 0 rfl f_Ref_60 rfl d_Ref_date_58 ?_
      refine lv_aload_n hx hb d_Ref_date_61 rfl (lv_at hl 1 rfl) ?_
      refine g_get hx hb hk hown hK hP 0 rfl f_Ref_66 rfl d_Ref_date_62 ?_
      refine p_callS (rest := [.int (iI (dn - cFD (cY dn) k))]) hx hb (hml.trans hl.1.symm) hown hk hK k_Ref_51 (ct_Ref_length l D tys (cY dn) k (by omega) (by omega) (by omega) (by omega)) nil_P nil_D rfl rfl ⟨rfl, rfl⟩ ⟨by decide, by decide, by decide, by decide⟩ (Nat.le_of_ble_eq_true rfl) d_Ref_date_65 ?_
      have gL := cLen_lo (cY dn) k
      have gL2 := cLen_hi (cY dn) k
      have gN := cFD_b (y := cY dn) (mo := k) (by omega) (by omega) (by omega) (by omega)
      have gS := cFD_succ (cY dn) hk1
      refine ri_icmp_lt (tgt := 98) hx hb d_Ref_date_68 (by decide) (fun h68 => ?_) (fun h68 => ?_)
      · refine lv_aload_n hx hb d_Ref_date_98 rfl (lv_at hl 1 rfl) ?_
        refine lv_iload_n hx hb d_Ref_date_99 rfl (lv_at hl 0 rfl) ?_
        refine lv_iconst (v := iI 1) hx hb d_Ref_date_100 rfl ?_
        refine ri_iadd hx hb d_Ref_date_101 ?_
        refine g_put hx hb hk hown hK hP hD hS 0 rfl f_Ref_69 fT_Ref rfl (rfl) rfl (Nat.le_of_ble_eq_true rfl) d_Ref_date_102 (fun H locs hP hD hS => ?_)
        have hP : va_P D vwCl [(mm, .inr (4, [.int (iI fa), .ref tA, .int (iI ((nn : Int))), .int (iI pl), .int (iI (cY dn)), .int (iI k), .int (iI ((dn - cFD (cY dn) k) + 1)), .int (iI ((i : Int))), .ref oA, .ref sA, .ref eA, .ref gA, .ref cA, .ref rA, .ref fA]))] H := hP
        have hD : va_D (wA [(mm, .inr (4, [.int (iI fa), .ref tA, .int (iI ((nn : Int))), .int (iI pl), .int (iI yr), .int (iI mn), .int (iI dy), .int (iI ((i : Int))), .ref oA, .ref sA, .ref eA, .ref gA, .ref cA, .ref rA, .ref fA]))]) [(mm, .inr (4, [.int (iI fa), .ref tA, .int (iI ((nn : Int))), .int (iI pl), .int (iI (cY dn)), .int (iI k), .int (iI ((dn - cFD (cY dn) k) + 1)), .int (iI ((i : Int))), .ref oA, .ref sA, .ref eA, .ref gA, .ref cA, .ref rA, .ref fA]))] := hD
        have hR : cMo (cY dn) dn = k := by
          rw [hv]
          by_cases e : k = 12
          · rw [e]; rfl
          · rw [cMoF_step (by omega), if_neg (by omega)]
        exact m_vret hx hb hr hlk hP hS d_Ref_date_105 (by rw [hR])
      · have gk : k + 1 ≤ 12 := by
          by_cases e : k = 12
          · rw [e] at h68 gS; rw [show (12 : Int) + 1 = 13 from rfl, cFD_13] at gS; omega
          · omega
        refine lv_iload_n hx hb d_Ref_date_71 rfl (lv_at hl 0 rfl) ?_
        refine lv_aload_n hx hb d_Ref_date_72 rfl (lv_at hl 1 rfl) ?_
        refine g_get hx hb hk hown hK hP 0 rfl f_Ref_60 rfl d_Ref_date_73 ?_
        refine lv_aload_n hx hb d_Ref_date_76 rfl (lv_at hl 1 rfl) ?_
        refine g_get hx hb hk hown hK hP 0 rfl f_Ref_66 rfl d_Ref_date_77 ?_
        refine p_callS (rest := [.int (iI (dn - cFD (cY dn) k))]) hx hb (hml.trans hl.1.symm) hown hk hK k_Ref_51 (ct_Ref_length l D tys (cY dn) k (by omega) (by omega) (by omega) (by omega)) nil_P nil_D rfl rfl ⟨rfl, rfl⟩ ⟨by decide, by decide, by decide, by decide⟩ (Nat.le_of_ble_eq_true rfl) d_Ref_date_80 ?_
        have gL := cLen_lo (cY dn) k
        have gL2 := cLen_hi (cY dn) k
        have gN := cFD_b (y := cY dn) (mo := k) (by omega) (by omega) (by omega) (by omega)
        have gS := cFD_succ (cY dn) hk1
        refine ri_isub hx hb d_Ref_date_83 ?_
        refine ri_i (show (dn - cFD (cY dn) k) - (cLen (cY dn) k) = dn - cFD (cY dn) (k + 1) from by rw [cFD_succ _ hk1]; omega) ?_
        refine lv_istore_n (lv' := [(2, .int (iI (dn - cFD (cY dn) (k + 1)))), (0, .ref mm), (1, .int (iI dn))]) hx hb d_Ref_date_84 rfl hl (by decide) rfl (fun ls hl => ?_)
        refine lv_aload_n hx hb d_Ref_date_85 rfl (lv_at hl 1 rfl) ?_
        refine lv_dup hx hb d_Ref_date_86 rfl ?_
        refine g_get hx hb hk hown hK hP 0 rfl f_Ref_66 rfl d_Ref_date_87 ?_
        refine lv_iconst (v := iI 1) hx hb d_Ref_date_90 rfl ?_
        refine ri_iadd hx hb d_Ref_date_91 ?_
        refine g_put hx hb hk hown hK hP hD hS 0 rfl f_Ref_66 fT_Ref rfl (rfl) rfl (Nat.le_of_ble_eq_true rfl) d_Ref_date_92 (fun H locs hP hD hS => ?_)
        have hP : va_P D vwCl [(mm, .inr (4, [.int (iI fa), .ref tA, .int (iI ((nn : Int))), .int (iI pl), .int (iI (cY dn)), .int (iI (k + 1)), .int (iI dy), .int (iI ((i : Int))), .ref oA, .ref sA, .ref eA, .ref gA, .ref cA, .ref rA, .ref fA]))] H := hP
        have hD : va_D (wA [(mm, .inr (4, [.int (iI fa), .ref tA, .int (iI ((nn : Int))), .int (iI pl), .int (iI yr), .int (iI mn), .int (iI dy), .int (iI ((i : Int))), .ref oA, .ref sA, .ref eA, .ref gA, .ref cA, .ref rA, .ref fA]))]) [(mm, .inr (4, [.int (iI fa), .ref tA, .int (iI ((nn : Int))), .int (iI pl), .int (iI (cY dn)), .int (iI (k + 1)), .int (iI dy), .int (iI ((i : Int))), .ref oA, .ref sA, .ref eA, .ref gA, .ref cA, .ref rA, .ref fA]))] := hD
        refine lv_goto (tgt := 56) hx hb d_Ref_date_95 (by decide) ?_
        exact ih _ (by omega) (k + 1) ls _ _ (by omega) gk (by omega) (by rw [hv, cMoF_step (by omega), if_pos (by omega)]) rfl hP hD hS (lv_sub hl [0, 1, 2] rfl)
    exact loop56 _ 1 ls _ _ (by omega) (by omega) (by rw [cFD_1]; exact gLo) rfl rfl hP hD hS (lv_sub hl [0, 1, 2] rfl)
  · refine lv_aload_n hx hb d_Ref_date_27 rfl (lv_at hl 0 rfl) ?_
    refine lv_dup hx hb d_Ref_date_28 rfl ?_
    refine g_get hx hb hk hown hK hP 0 rfl f_Ref_60 rfl d_Ref_date_29 ?_
    refine lv_iconst (v := iI 1) hx hb d_Ref_date_32 rfl ?_
    refine ri_isub hx hb d_Ref_date_33 ?_
    refine g_put hx hb hk hown hK hP hD hS 0 rfl f_Ref_60 fT_Ref rfl (rfl) rfl (Nat.le_of_ble_eq_true rfl) d_Ref_date_34 (fun H locs hP hD hS => ?_)
    have hP : va_P D vwCl [(mm, .inr (4, [.int (iI fa), .ref tA, .int (iI ((nn : Int))), .int (iI pl), .int (iI ((1970 + (dn / 365)) - 1)), .int (iI mn), .int (iI dy), .int (iI ((i : Int))), .ref oA, .ref sA, .ref eA, .ref gA, .ref cA, .ref rA, .ref fA]))] H := hP
    have hD : va_D (wA [(mm, .inr (4, [.int (iI fa), .ref tA, .int (iI ((nn : Int))), .int (iI pl), .int (iI yr), .int (iI mn), .int (iI dy), .int (iI ((i : Int))), .ref oA, .ref sA, .ref eA, .ref gA, .ref cA, .ref rA, .ref fA]))]) [(mm, .inr (4, [.int (iI fa), .ref tA, .int (iI ((nn : Int))), .int (iI pl), .int (iI ((1970 + (dn / 365)) - 1)), .int (iI mn), .int (iI dy), .int (iI ((i : Int))), .ref oA, .ref sA, .ref eA, .ref gA, .ref cA, .ref rA, .ref fA]))] := hD
    refine lv_goto (tgt := 15) hx hb d_Ref_date_37 (by decide) ?_
    have gh := cYear_hi (y := 1970 + dn / 365 - 1) (by omega) (by omega)
    refine lv_aload_n hx hb d_Ref_date_15 rfl (lv_at hl 0 rfl) ?_
    refine g_get hx hb hk hown hK hP 0 rfl f_Ref_60 rfl d_Ref_date_16 ?_
    refine lv_iconst (v := iI 1) hx hb d_Ref_date_19 rfl ?_
    refine p_callS (rest := []) hx hb (hml.trans hl.1.symm) hown hk hK k_Ref_63 (ct_Ref_number l D tys ((1970 + (dn / 365)) - 1) 1 (by omega) (by omega) (by omega) (by omega)) nil_P nil_D rfl rfl ⟨rfl, rfl⟩ ⟨by decide, by decide, by decide, by decide⟩ (Nat.le_of_ble_eq_true rfl) d_Ref_date_20 ?_
    have gN := cFD_b (y := (1970 + (dn / 365)) - 1) (mo := 1) (by omega) (by omega) (by omega) (by omega)
    refine lv_iload_n hx hb d_Ref_date_23 rfl (lv_at hl 1 rfl) ?_
    refine ri_icmp_le (tgt := 40) hx hb d_Ref_date_24 (by decide) (fun h24 => ?_) (fun h24 => ?_)
    · have eY : cY dn = (1970 + (dn / 365)) - 1 := by unfold cY; rw [if_pos (by have := cFD_1 (1970 + dn / 365); omega)]
      have hP : va_P D vwCl [(mm, .inr (4, [.int (iI fa), .ref tA, .int (iI ((nn : Int))), .int (iI pl), .int (iI (cY dn)), .int (iI mn), .int (iI dy), .int (iI ((i : Int))), .ref oA, .ref sA, .ref eA, .ref gA, .ref cA, .ref rA, .ref fA]))] H := by rw [eY]; exact hP
      have hD : va_D (wA [(mm, .inr (4, [.int (iI fa), .ref tA, .int (iI ((nn : Int))), .int (iI pl), .int (iI yr), .int (iI mn), .int (iI dy), .int (iI ((i : Int))), .ref oA, .ref sA, .ref eA, .ref gA, .ref cA, .ref rA, .ref fA]))]) [(mm, .inr (4, [.int (iI fa), .ref tA, .int (iI ((nn : Int))), .int (iI pl), .int (iI (cY dn)), .int (iI mn), .int (iI dy), .int (iI ((i : Int))), .ref oA, .ref sA, .ref eA, .ref gA, .ref cA, .ref rA, .ref fA]))] := by rw [eY]; exact hD
      clear eY
      refine lv_iload_n hx hb d_Ref_date_40 rfl (lv_at hl 1 rfl) ?_
      refine lv_aload_n hx hb d_Ref_date_41 rfl (lv_at hl 0 rfl) ?_
      refine g_get hx hb hk hown hK hP 0 rfl f_Ref_60 rfl d_Ref_date_42 ?_
      refine lv_iconst (v := iI 1) hx hb d_Ref_date_45 rfl ?_
      refine p_callS (rest := [.int (iI dn)]) hx hb (hml.trans hl.1.symm) hown hk hK k_Ref_63 (ct_Ref_number l D tys (cY dn) 1 (by omega) (by omega) (by omega) (by omega)) nil_P nil_D rfl rfl ⟨rfl, rfl⟩ ⟨by decide, by decide, by decide, by decide⟩ (Nat.le_of_ble_eq_true rfl) d_Ref_date_46 ?_
      have gN := cFD_b (y := cY dn) (mo := 1) (by omega) (by omega) (by omega) (by omega)
      refine ri_isub hx hb d_Ref_date_49 ?_
      refine lv_istore_n (lv' := [(2, .int (iI (dn - (cFD (cY dn) 1)))), (0, .ref mm), (1, .int (iI dn))]) hx hb d_Ref_date_50 rfl hl (by decide) rfl (fun ls hl => ?_)
      refine lv_aload_n hx hb d_Ref_date_51 rfl (lv_at hl 1 rfl) ?_
      refine lv_iconst (v := iI 1) hx hb d_Ref_date_52 rfl ?_
      refine g_put hx hb hk hown hK hP hD hS 0 rfl f_Ref_66 fT_Ref rfl (rfl) rfl (Nat.le_of_ble_eq_true rfl) d_Ref_date_53 (fun H locs hP hD hS => ?_)
      have hP : va_P D vwCl [(mm, .inr (4, [.int (iI fa), .ref tA, .int (iI ((nn : Int))), .int (iI pl), .int (iI (cY dn)), .int (iI 1), .int (iI dy), .int (iI ((i : Int))), .ref oA, .ref sA, .ref eA, .ref gA, .ref cA, .ref rA, .ref fA]))] H := hP
      have hD : va_D (wA [(mm, .inr (4, [.int (iI fa), .ref tA, .int (iI ((nn : Int))), .int (iI pl), .int (iI yr), .int (iI mn), .int (iI dy), .int (iI ((i : Int))), .ref oA, .ref sA, .ref eA, .ref gA, .ref cA, .ref rA, .ref fA]))]) [(mm, .inr (4, [.int (iI fa), .ref tA, .int (iI ((nn : Int))), .int (iI pl), .int (iI (cY dn)), .int (iI 1), .int (iI dy), .int (iI ((i : Int))), .ref oA, .ref sA, .ref eA, .ref gA, .ref cA, .ref rA, .ref fA]))] := hD
      have loop56 : ∀ (n : Nat) (k : Int) (ls : Array Slot) (H : Heap) (locs : List Loc), (1 ≤ k) → (k ≤ 12) → (cFD (cY dn) k ≤ dn) → (cMo (cY dn) dn = cMoF (cY dn) dn (12 - k).toNat k) → (12 - k).toNat = n → va_P D vwCl [(mm, .inr (4, [.int (iI fa), .ref tA, .int (iI ((nn : Int))), .int (iI pl), .int (iI (cY dn)), .int (iI k), .int (iI dy), .int (iI ((i : Int))), .ref oA, .ref sA, .ref eA, .ref gA, .ref cA, .ref rA, .ref fA]))] H → va_D (wA [(mm, .inr (4, [.int (iI fa), .ref tA, .int (iI ((nn : Int))), .int (iI pl), .int (iI yr), .int (iI mn), .int (iI dy), .int (iI ((i : Int))), .ref oA, .ref sA, .ref eA, .ref gA, .ref cA, .ref rA, .ref fA]))]) [(mm, .inr (4, [.int (iI fa), .ref tA, .int (iI ((nn : Int))), .int (iI pl), .int (iI (cY dn)), .int (iI k), .int (iI dy), .int (iI ((i : Int))), .ref oA, .ref sA, .ref eA, .ref gA, .ref cA, .ref rA, .ref fA]))] → va_S (wA [(mm, .inr (4, [.int (iI fa), .ref tA, .int (iI ((nn : Int))), .int (iI pl), .int (iI yr), .int (iI mn), .int (iI dy), .int (iI ((i : Int))), .ref oA, .ref sA, .ref eA, .ref gA, .ref cA, .ref rA, .ref fA]))]) s.heap H locs → lv_has ls 3 [(2, .int (iI (dn - cFD (cY dn) k))), (0, .ref mm), (1, .int (iI dn))] → W p l e rm_Ref_date s m ([.ref mm, .int (iI dn)] : List Value).toArray below meth c H locs 0 0 (MQ below (mQ D [(mm, .inr (4, [.int (iI fa), .ref tA, .int (iI ((nn : Int))), .int (iI pl), .int (iI yr), .int (iI mn), .int (iI dy), .int (iI ((i : Int))), .ref oA, .ref sA, .ref eA, .ref gA, .ref cA, .ref rA, .ref fA]))] none [(mm, .inr (4, [.int (iI fa), .ref tA, .int (iI ((nn : Int))), .int (iI pl), .int (iI (cY dn)), .int (iI (cMo (cY dn) dn)), .int (iI (dn - cFD (cY dn) (cMo (cY dn) dn) + 1)), .int (iI ((i : Int))), .ref oA, .ref sA, .ref eA, .ref gA, .ref cA, .ref rA, .ref fA]))]) ([.ref mm, .int (iI dn)] : List Value).toArray s 0 0 (wA [(mm, .inr (4, [.int (iI fa), .ref tA, .int (iI ((nn : Int))), .int (iI pl), .int (iI yr), .int (iI mn), .int (iI dy), .int (iI ((i : Int))), .ref oA, .ref sA, .ref eA, .ref gA, .ref cA, .ref rA, .ref fA]))])) (F0 m 56 ls []) := by
        intro n
        induction n using Nat.strongRecOn with
        | _ n ih =>
        intro k ls H locs hk1 hk2 hkd hv hn hP hD hS hl
        refine lv_iload_n hx hb d_Ref_date_56 rfl (lv_at hl 0 rfl) ?_
        refine lv_aload_n hx hb d_Ref_date_57 rfl (lv_at hl 1 rfl) ?_
        refine g_get hx hb hk hown hK hP 0 rfl f_Ref_60 rfl d_Ref_date_58 ?_
        refine lv_aload_n hx hb d_Ref_date_61 rfl (lv_at hl 1 rfl) ?_
        refine g_get hx hb hk hown hK hP 0 rfl f_Ref_66 rfl d_Ref_date_62 ?_
        refine p_callS (rest := [.int (iI (dn - cFD (cY dn) k))]) hx hb (hml.trans hl.1.symm) hown hk hK k_Ref_51 (ct_Ref_length l D tys (cY dn) k (by omega) (by omega) (by omega) (by omega)) nil_P nil_D rfl rfl ⟨rfl, rfl⟩ ⟨by decide, by decide, by decide, by decide⟩ (Nat.le_of_ble_eq_true rfl) d_Ref_date_65 ?_
        have gL := cLen_lo (cY dn) k
        have gL2 := cLen_hi (cY dn) k
        have gN := cFD_b (y := cY dn) (mo := k) (by omega) (by omega) (by omega) (by omega)
        have gS := cFD_succ (cY dn) hk1
        refine ri_icmp_lt (tgt := 98) hx hb d_Ref_date_68 (by decide) (fun h68 => ?_) (fun h68 => ?_)
        · refine lv_aload_n hx hb d_Ref_date_98 rfl (lv_at hl 1 rfl) ?_
          refine lv_iload_n hx hb d_Ref_date_99 rfl (lv_at hl 0 rfl) ?_
          refine lv_iconst (v := iI 1) hx hb d_Ref_date_100 rfl ?_
          refine ri_iadd hx hb d_Ref_date_101 ?_
          refine g_put hx hb hk hown hK hP hD hS 0 rfl f_Ref_69 fT_Ref rfl (rfl) rfl (Nat.le_of_ble_eq_true rfl) d_Ref_date_102 (fun H locs hP hD hS => ?_)
          have hP : va_P D vwCl [(mm, .inr (4, [.int (iI fa), .ref tA, .int (iI ((nn : Int))), .int (iI pl), .int (iI (cY dn)), .int (iI k), .int (iI ((dn - cFD (cY dn) k) + 1)), .int (iI ((i : Int))), .ref oA, .ref sA, .ref eA, .ref gA, .ref cA, .ref rA, .ref fA]))] H := hP
          have hD : va_D (wA [(mm, .inr (4, [.int (iI fa), .ref tA, .int (iI ((nn : Int))), .int (iI pl), .int (iI yr), .int (iI mn), .int (iI dy), .int (iI ((i : Int))), .ref oA, .ref sA, .ref eA, .ref gA, .ref cA, .ref rA, .ref fA]))]) [(mm, .inr (4, [.int (iI fa), .ref tA, .int (iI ((nn : Int))), .int (iI pl), .int (iI (cY dn)), .int (iI k), .int (iI ((dn - cFD (cY dn) k) + 1)), .int (iI ((i : Int))), .ref oA, .ref sA, .ref eA, .ref gA, .ref cA, .ref rA, .ref fA]))] := hD
          have hR : cMo (cY dn) dn = k := by
            rw [hv]
            by_cases e : k = 12
            · rw [e]; rfl
            · rw [cMoF_step (by omega), if_neg (by omega)]
          exact m_vret hx hb hr hlk hP hS d_Ref_date_105 (by rw [hR])
        · have gk : k + 1 ≤ 12 := by
            by_cases e : k = 12
            · rw [e] at h68 gS; rw [show (12 : Int) + 1 = 13 from rfl, cFD_13] at gS; omega
            · omega
          refine lv_iload_n hx hb d_Ref_date_71 rfl (lv_at hl 0 rfl) ?_
          refine lv_aload_n hx hb d_Ref_date_72 rfl (lv_at hl 1 rfl) ?_
          refine g_get hx hb hk hown hK hP 0 rfl f_Ref_60 rfl d_Ref_date_73 ?_
          refine lv_aload_n hx hb d_Ref_date_76 rfl (lv_at hl 1 rfl) ?_
          refine g_get hx hb hk hown hK hP 0 rfl f_Ref_66 rfl d_Ref_date_77 ?_
          refine p_callS (rest := [.int (iI (dn - cFD (cY dn) k))]) hx hb (hml.trans hl.1.symm) hown hk hK k_Ref_51 (ct_Ref_length l D tys (cY dn) k (by omega) (by omega) (by omega) (by omega)) nil_P nil_D rfl rfl ⟨rfl, rfl⟩ ⟨by decide, by decide, by decide, by decide⟩ (Nat.le_of_ble_eq_true rfl) d_Ref_date_80 ?_
          have gL := cLen_lo (cY dn) k
          have gL2 := cLen_hi (cY dn) k
          have gN := cFD_b (y := cY dn) (mo := k) (by omega) (by omega) (by omega) (by omega)
          have gS := cFD_succ (cY dn) hk1
          refine ri_isub hx hb d_Ref_date_83 ?_
          refine ri_i (show (dn - cFD (cY dn) k) - (cLen (cY dn) k) = dn - cFD (cY dn) (k + 1) from by rw [cFD_succ _ hk1]; omega) ?_
          refine lv_istore_n (lv' := [(2, .int (iI (dn - cFD (cY dn) (k + 1)))), (0, .ref mm), (1, .int (iI dn))]) hx hb d_Ref_date_84 rfl hl (by decide) rfl (fun ls hl => ?_)
          refine lv_aload_n hx hb d_Ref_date_85 rfl (lv_at hl 1 rfl) ?_
          refine lv_dup hx hb d_Ref_date_86 rfl ?_
          refine g_get hx hb hk hown hK hP 0 rfl f_Ref_66 rfl d_Ref_date_87 ?_
          refine lv_iconst (v := iI 1) hx hb d_Ref_date_90 rfl ?_
          refine ri_iadd hx hb d_Ref_date_91 ?_
          refine g_put hx hb hk hown hK hP hD hS 0 rfl f_Ref_66 fT_Ref rfl (rfl) rfl (Nat.le_of_ble_eq_true rfl) d_Ref_date_92 (fun H locs hP hD hS => ?_)
          have hP : va_P D vwCl [(mm, .inr (4, [.int (iI fa), .ref tA, .int (iI ((nn : Int))), .int (iI pl), .int (iI (cY dn)), .int (iI (k + 1)), .int (iI dy), .int (iI ((i : Int))), .ref oA, .ref sA, .ref eA, .ref gA, .ref cA, .ref rA, .ref fA]))] H := hP
          have hD : va_D (wA [(mm, .inr (4, [.int (iI fa), .ref tA, .int (iI ((nn : Int))), .int (iI pl), .int (iI yr), .int (iI mn), .int (iI dy), .int (iI ((i : Int))), .ref oA, .ref sA, .ref eA, .ref gA, .ref cA, .ref rA, .ref fA]))]) [(mm, .inr (4, [.int (iI fa), .ref tA, .int (iI ((nn : Int))), .int (iI pl), .int (iI (cY dn)), .int (iI (k + 1)), .int (iI dy), .int (iI ((i : Int))), .ref oA, .ref sA, .ref eA, .ref gA, .ref cA, .ref rA, .ref fA]))] := hD
          refine lv_goto (tgt := 56) hx hb d_Ref_date_95 (by decide) ?_
          exact ih _ (by omega) (k + 1) ls _ _ (by omega) gk (by omega) (by rw [hv, cMoF_step (by omega), if_pos (by omega)]) rfl hP hD hS (lv_sub hl [0, 1, 2] rfl)
      exact loop56 _ 1 ls _ _ (by omega) (by omega) (by rw [cFD_1]; exact gLo) rfl rfl hP hD hS (lv_sub hl [0, 1, 2] rfl)
    · exfalso; rw [cFD_1] at h24; omega
abbrev rm_Ref_field : Room := { frames := 4, cells := 0, slots := 0, locals := 94 }
set_option maxHeartbeats 4000000 in
set_option maxRecDepth 100000 in
theorem ct_Ref_field (l : Launch) (D : va_G) (tys : List (ClassId × FieldType)) (mm : Nat) (tA : Nat) (oA : Nat) (sA : Nat) (eA : Nat) (gA : Nat) (cA : Nat) (rA : Nat) (fA : Nat) (fa : Int) (nn : Nat) (pl : Int) (yr : Int) (mn : Int) (dy : Int) (i : Nat) (cI : ClassId) (cJ : ClassId) (cG : ClassId) (cJJ : ClassId) (cGG : ClassId) (oI : Nat → Int) (sI : Nat → Int) (cN : Nat → Nat) (eR : Nat → Nat) (gR : Nat → Nat) (zi : Nat) (eF : Nat → Int) (gF : Nat → Bool) (t : Int) (w : Int) (hI : tys[1]? = some (cI, .int)) (hJ : tys[2]? = some (cJ, .long)) (hG : tys[3]? = some (cG, .boolean)) (hJJ : tys[5]? = some (cJJ, .array .long)) (hGG : tys[6]? = some (cGG, .array .boolean)) (gz : zi < 8) (gc : cN zi ≤ 660) (gE : ∀ k, k < 660 → -1000000000000000 ≤ eF k ∧ eF k ≤ 1000000000000000) (hs : evS (cN zi) eF gF) (go1 : -840 ≤ oI zi) (go2 : oI zi ≤ 840) (gs1 : 0 ≤ sI zi) (gs2 : sI zi ≤ 120) (gt1 : 0 ≤ t) (gt2 : t ≤ 10413791999999) (gw1 : 0 ≤ w) (gw2 : w ≤ 8) : mMet l y_Ref_field c_Ref_field 10 (some .int) rm_Ref_field D tys [.ref mm, .int (iI ((zi : Int))), .long (lL t), .int (iI w)] [(mm, .inr (4, [.int (iI fa), .ref tA, .int (iI ((nn : Int))), .int (iI pl), .int (iI yr), .int (iI mn), .int (iI dy), .int (iI ((i : Int))), .ref oA, .ref sA, .ref eA, .ref gA, .ref cA, .ref rA, .ref fA])), (oA, .inl (cI, 8, .inl (fun j => iI (oI j)))), (sA, .inl (cI, 8, .inl (fun j => iI (sI j)))), (eA, .inl (cJJ, 8, .inr (.inr (.inr (.inr (fun k => some (eR k))))))), (gA, .inl (cGG, 8, .inr (.inr (.inr (.inr (fun k => some (gR k))))))), (cA, .inl (cI, 8, .inl (fun j => iI (cN j : Int)))), (eR zi, .inl (cJ, 660, .inr (.inl (fun j => lL (eF j))))), (gR zi, .inl (cG, 660, .inl (fun j => iI (bI (gF j)))))] (some (.int (iI (rFld (oI zi) (sI zi) (cN zi) eF gF t w)))) [(mm, .inr (4, [.int (iI 0), .ref tA, .int (iI ((nn : Int))), .int (iI pl), .int (iI (cY (rX t (rMin (oI zi) (sI zi) (evK eF t (cN zi)) gF) / 86400))), .int (iI (cMo (cY (rX t (rMin (oI zi) (sI zi) (evK eF t (cN zi)) gF) / 86400)) (rX t (rMin (oI zi) (sI zi) (evK eF t (cN zi)) gF) / 86400))), .int (iI (rX t (rMin (oI zi) (sI zi) (evK eF t (cN zi)) gF) / 86400 - cFD (cY (rX t (rMin (oI zi) (sI zi) (evK eF t (cN zi)) gF) / 86400)) (cMo (cY (rX t (rMin (oI zi) (sI zi) (evK eF t (cN zi)) gF) / 86400)) (rX t (rMin (oI zi) (sI zi) (evK eF t (cN zi)) gF) / 86400)) + 1)), .int (iI ((i : Int))), .ref oA, .ref sA, .ref eA, .ref gA, .ref cA, .ref rA, .ref fA])), (oA, .inl (cI, 8, .inl (fun j => iI (oI j)))), (sA, .inl (cI, 8, .inl (fun j => iI (sI j)))), (eA, .inl (cJJ, 8, .inr (.inr (.inr (.inr (fun k => some (eR k))))))), (gA, .inl (cGG, 8, .inr (.inr (.inr (.inr (fun k => some (gR k))))))), (cA, .inl (cI, 8, .inl (fun j => iI (cN j : Int)))), (eR zi, .inl (cJ, 660, .inr (.inl (fun j => lL (eF j))))), (gR zi, .inl (cG, 660, .inl (fun j => iI (bI (gF j)))))] := by
  refine mMet_of (by decide) (Nat.le_of_ble_eq_true rfl) ?_
  intro p e s m below meth c hx hb hr hown hlk hml hk hK hP hD hS ls hl
  have hl : lv_has ls 10 [(0, .ref mm), (1, .int (iI ((zi : Int)))), (2, .long (lL t)), (4, .int (iI w))] := hl
  have gK := evK_le eF t (cN zi)
  refine lv_aload_n hx hb d_Ref_field_0 rfl (lv_at hl 0 rfl) ?_
  refine lv_iconst (v := iI 0) hx hb d_Ref_field_1 rfl ?_
  refine g_put hx hb hk hown hK hP hD hS 0 rfl f_Ref_44 fT_Ref rfl (rfl) rfl (Nat.le_of_ble_eq_true rfl) d_Ref_field_2 (fun H locs hP hD hS => ?_)
  have hP : va_P D vwCl [(mm, .inr (4, [.int (iI 0), .ref tA, .int (iI ((nn : Int))), .int (iI pl), .int (iI yr), .int (iI mn), .int (iI dy), .int (iI ((i : Int))), .ref oA, .ref sA, .ref eA, .ref gA, .ref cA, .ref rA, .ref fA])), (oA, .inl (cI, 8, .inl (fun j => iI (oI j)))), (sA, .inl (cI, 8, .inl (fun j => iI (sI j)))), (eA, .inl (cJJ, 8, .inr (.inr (.inr (.inr (fun k => some (eR k))))))), (gA, .inl (cGG, 8, .inr (.inr (.inr (.inr (fun k => some (gR k))))))), (cA, .inl (cI, 8, .inl (fun j => iI (cN j : Int)))), (eR zi, .inl (cJ, 660, .inr (.inl (fun j => lL (eF j))))), (gR zi, .inl (cG, 660, .inl (fun j => iI (bI (gF j)))))] H := hP
  have hD : va_D (wA [(mm, .inr (4, [.int (iI fa), .ref tA, .int (iI ((nn : Int))), .int (iI pl), .int (iI yr), .int (iI mn), .int (iI dy), .int (iI ((i : Int))), .ref oA, .ref sA, .ref eA, .ref gA, .ref cA, .ref rA, .ref fA])), (oA, .inl (cI, 8, .inl (fun j => iI (oI j)))), (sA, .inl (cI, 8, .inl (fun j => iI (sI j)))), (eA, .inl (cJJ, 8, .inr (.inr (.inr (.inr (fun k => some (eR k))))))), (gA, .inl (cGG, 8, .inr (.inr (.inr (.inr (fun k => some (gR k))))))), (cA, .inl (cI, 8, .inl (fun j => iI (cN j : Int)))), (eR zi, .inl (cJ, 660, .inr (.inl (fun j => lL (eF j))))), (gR zi, .inl (cG, 660, .inl (fun j => iI (bI (gF j)))))]) [(mm, .inr (4, [.int (iI 0), .ref tA, .int (iI ((nn : Int))), .int (iI pl), .int (iI yr), .int (iI mn), .int (iI dy), .int (iI ((i : Int))), .ref oA, .ref sA, .ref eA, .ref gA, .ref cA, .ref rA, .ref fA])), (oA, .inl (cI, 8, .inl (fun j => iI (oI j)))), (sA, .inl (cI, 8, .inl (fun j => iI (sI j)))), (eA, .inl (cJJ, 8, .inr (.inr (.inr (.inr (fun k => some (eR k))))))), (gA, .inl (cGG, 8, .inr (.inr (.inr (.inr (fun k => some (gR k))))))), (cA, .inl (cI, 8, .inl (fun j => iI (cN j : Int)))), (eR zi, .inl (cJ, 660, .inr (.inl (fun j => lL (eF j))))), (gR zi, .inl (cG, 660, .inl (fun j => iI (bI (gF j)))))] := hD
  refine lv_aload_n hx hb d_Ref_field_5 rfl (lv_at hl 0 rfl) ?_
  refine lv_iload_n hx hb d_Ref_field_6 rfl (lv_at hl 1 rfl) ?_
  refine lv_lload_n hx hb d_Ref_field_7 rfl (lv_at hl 2 rfl) ?_
  refine p_callV (rest := []) (q0 := 0) hx hb (hml.trans hl.1.symm) hown hk hK k_Ref_137 (ct_Ref_out l D tys mm tA oA sA eA gA cA rA fA 0 nn pl yr mn dy i ((zi : Int)) t (by omega) (by omega) (by omega) (by omega)) (w_subP (is := [0]) hP rfl) (w_subD (is := [0]) hD rfl rfl) rfl rfl rfl rfl ⟨rfl, rfl⟩ ⟨by decide, by decide, by decide, by decide⟩ (Nat.le_of_ble_eq_true rfl) d_Ref_field_8 ?_
  have gO : zOutB (zi : Int) t = false := by unfold zOutB; exact decide_eq_false (by omega)
  have gO2 : bI (zOutB (zi : Int) t) = 0 := by rw [gO]; rfl
  refine ri_if_ne (tgt := 26) hx hb d_Ref_field_11 (by decide) (fun h11 => ?_) (fun h11 => ?_)
  · exfalso; omega
  · refine lv_iload hx hb d_Ref_field_14 (lv_at hl 3 rfl) ?_
    refine ri_if_lt (tgt := 26) hx hb d_Ref_field_16 (by decide) (fun h16 => ?_) (fun h16 => ?_)
    · exfalso; omega
    · refine lv_iload hx hb d_Ref_field_19 (lv_at hl 3 rfl) ?_
      refine lv_bipush (v := iI 8) hx hb d_Ref_field_21 (by decide) ?_
      refine ri_icmp_le (tgt := 32) hx hb d_Ref_field_23 (by decide) (fun h23 => ?_) (fun h23 => ?_)
      · refine lv_aload_n hx hb d_Ref_field_32 rfl (lv_at hl 0 rfl) ?_
        refine lv_iload_n hx hb d_Ref_field_33 rfl (lv_at hl 1 rfl) ?_
        refine lv_lload_n hx hb d_Ref_field_34 rfl (lv_at hl 2 rfl) ?_
        refine p_callV (rest := []) (q0 := 0) hx hb (hml.trans hl.1.symm) hown hk hK k_Ref_128 (ct_Ref_passed l D tys mm tA oA sA eA gA cA rA fA 0 nn pl yr mn dy i cI cJ cG cJJ cGG oI sI cN eR gR zi eF gF t hI hJ hG hJJ hGG gz gc gE hs (by omega) (by omega)) (w_subP (is := [0, 1, 2, 3, 4, 5, 6, 7]) hP rfl) (w_subD (is := [0, 1, 2, 3, 4, 5, 6, 7]) hD rfl rfl) rfl rfl rfl rfl ⟨rfl, rfl⟩ ⟨by decide, by decide, by decide, by decide⟩ (Nat.le_of_ble_eq_true rfl) d_Ref_field_35 ?_
        refine lv_istore (lv' := [(5, .int (iI (((evK eF t (cN zi) : Nat) : Int)))), (0, .ref mm), (1, .int (iI ((zi : Int)))), (2, .long (lL t)), (4, .int (iI w))]) hx hb d_Ref_field_38 hl (by decide) rfl (fun ls hl => ?_)
        refine lv_lload_n hx hb d_Ref_field_40 rfl (lv_at hl 3 rfl) ?_
        refine lv_ldc2 (v := lL 1000) hx hb hown (hk _ kc_Ref_153 _) d_Ref_field_41 ?_
        refine p_callS (rest := []) hx hb (hml.trans hl.1.symm) hown hk hK k_Ref_155 (ct_Math_floorDivJ l D tys t 1000 (by omega) (by omega) (by omega) (by omega)) nil_P nil_D rfl rfl ⟨rfl, rfl⟩ ⟨by decide, by decide, by decide, by decide⟩ (Nat.le_of_ble_eq_true rfl) d_Ref_field_44 ?_
        refine lv_ldc2 (v := lL 60) hx hb hown (hk _ kc_Ref_158 _) d_Ref_field_47 ?_
        refine lv_aload_n hx hb d_Ref_field_50 rfl (lv_at hl 1 rfl) ?_
        refine lv_iload_n hx hb d_Ref_field_51 rfl (lv_at hl 2 rfl) ?_
        refine lv_iload hx hb d_Ref_field_52 (lv_at hl 0 rfl) ?_
        refine p_callV (rest := [.long (lL 60), .long (lL (t / 1000))]) (q0 := 0) hx hb (hml.trans hl.1.symm) hown hk hK k_Ref_132 (ct_Ref_minutes l D tys mm tA oA sA eA gA cA rA fA 0 nn pl yr mn dy i cI cJ cG cJJ cGG oI sI cN eR gR zi eF gF (evK eF t (cN zi)) hI hJ hG hJJ hGG gz (by omega)) (w_subP (is := [0, 1, 2, 3, 4, 5, 6, 7]) hP rfl) (w_subD (is := [0, 1, 2, 3, 4, 5, 6, 7]) hD rfl rfl) rfl rfl rfl rfl ⟨rfl, rfl⟩ ⟨by decide, by decide, by decide, by decide⟩ (Nat.le_of_ble_eq_true rfl) d_Ref_field_54 ?_
        have gm := rMin_bd (ev := evK eF (t) (cN zi)) (G := gF) go1 go2 gs1 gs2
        have gX : -60000 ≤ rX t (rMin (oI zi) (sI zi) (evK eF t (cN zi)) gF) ∧ rX t (rMin (oI zi) (sI zi) (evK eF t (cN zi)) gF) ≤ 10413900000 := by unfold rX; omega
        refine ri_i2l hx hb d_Ref_field_57 ?_
        refine ri_lmul hx hb d_Ref_field_58 ?_
        refine ri_ladd hx hb d_Ref_field_59 ?_
        refine ri_l (show (t / 1000) + (60 * (rMin (oI zi) (sI zi) (evK eF t (cN zi)) gF)) = rX t (rMin (oI zi) (sI zi) (evK eF t (cN zi)) gF) from rfl) ?_
        refine lv_lstore (lv' := [(6, .long (lL (rX t (rMin (oI zi) (sI zi) (evK eF t (cN zi)) gF)))), (5, .int (iI (((evK eF t (cN zi) : Nat) : Int)))), (0, .ref mm), (1, .int (iI ((zi : Int)))), (2, .long (lL t)), (4, .int (iI w))]) hx hb d_Ref_field_60 hl (by decide) rfl (fun ls hl => ?_)
        refine lv_lload hx hb d_Ref_field_62 (lv_at hl 0 rfl) ?_
        refine lv_ldc2 (v := lL 86400) hx hb hown (hk _ kc_Ref_160 _) d_Ref_field_64 ?_
        refine p_callS (rest := []) hx hb (hml.trans hl.1.symm) hown hk hK k_Ref_155 (ct_Math_floorDivJ l D tys (rX t (rMin (oI zi) (sI zi) (evK eF t (cN zi)) gF)) 86400 (by omega) (by omega) (by omega) (by omega)) nil_P nil_D rfl rfl ⟨rfl, rfl⟩ ⟨by decide, by decide, by decide, by decide⟩ (Nat.le_of_ble_eq_true rfl) d_Ref_field_67 ?_
        refine ri_l2i hx hb d_Ref_field_70 ?_
        refine lv_istore (lv' := [(8, .int (iI ((rX t (rMin (oI zi) (sI zi) (evK eF t (cN zi)) gF)) / 86400))), (6, .long (lL (rX t (rMin (oI zi) (sI zi) (evK eF t (cN zi)) gF)))), (5, .int (iI (((evK eF t (cN zi) : Nat) : Int)))), (0, .ref mm), (1, .int (iI ((zi : Int)))), (2, .long (lL t)), (4, .int (iI w))]) hx hb d_Ref_field_71 hl (by decide) rfl (fun ls hl => ?_)
        refine lv_lload hx hb d_Ref_field_73 (lv_at hl 1 rfl) ?_
        refine lv_ldc2 (v := lL 86400) hx hb hown (hk _ kc_Ref_160 _) d_Ref_field_75 ?_
        refine p_callS (rest := []) hx hb (hml.trans hl.1.symm) hown hk hK k_Ref_162 (ct_Math_floorModJ l D tys (rX t (rMin (oI zi) (sI zi) (evK eF t (cN zi)) gF)) 86400 (by omega) (by omega) (by omega) (by omega)) nil_P nil_D rfl rfl ⟨rfl, rfl⟩ ⟨by decide, by decide, by decide, by decide⟩ (Nat.le_of_ble_eq_true rfl) d_Ref_field_78 ?_
        refine ri_l2i hx hb d_Ref_field_81 ?_
        refine lv_istore (lv' := [(9, .int (iI ((rX t (rMin (oI zi) (sI zi) (evK eF t (cN zi)) gF)) % 86400))), (8, .int (iI ((rX t (rMin (oI zi) (sI zi) (evK eF t (cN zi)) gF)) / 86400))), (6, .long (lL (rX t (rMin (oI zi) (sI zi) (evK eF t (cN zi)) gF)))), (5, .int (iI (((evK eF t (cN zi) : Nat) : Int)))), (0, .ref mm), (1, .int (iI ((zi : Int)))), (2, .long (lL t)), (4, .int (iI w))]) hx hb d_Ref_field_82 hl (by decide) rfl (fun ls hl => ?_)
        refine lv_aload_n hx hb d_Ref_field_84 rfl (lv_at hl 4 rfl) ?_
        refine lv_iload hx hb d_Ref_field_85 (lv_at hl 1 rfl) ?_
        refine m_callV (rest := []) (q0 := 0) hx hb (hml.trans hl.1.symm) hown hk hK k_Ref_164 (ct_Ref_date l D tys mm tA oA sA eA gA cA rA fA 0 nn pl yr mn dy i ((rX t (rMin (oI zi) (sI zi) (evK eF t (cN zi)) gF)) / 86400) (by omega) (by omega)) hP hD hS [0] rfl rfl rfl rfl rfl rfl rfl ⟨rfl, rfl⟩ ⟨by decide, by decide, by decide, by decide⟩ (Nat.le_of_ble_eq_true rfl) d_Ref_field_87 (fun H locs hP hD hS => ?_)
        have hP : va_P D vwCl [(mm, .inr (4, [.int (iI 0), .ref tA, .int (iI ((nn : Int))), .int (iI pl), .int (iI (cY ((rX t (rMin (oI zi) (sI zi) (evK eF t (cN zi)) gF)) / 86400))), .int (iI (cMo (cY ((rX t (rMin (oI zi) (sI zi) (evK eF t (cN zi)) gF)) / 86400)) ((rX t (rMin (oI zi) (sI zi) (evK eF t (cN zi)) gF)) / 86400))), .int (iI (((rX t (rMin (oI zi) (sI zi) (evK eF t (cN zi)) gF)) / 86400) - cFD (cY ((rX t (rMin (oI zi) (sI zi) (evK eF t (cN zi)) gF)) / 86400)) (cMo (cY ((rX t (rMin (oI zi) (sI zi) (evK eF t (cN zi)) gF)) / 86400)) ((rX t (rMin (oI zi) (sI zi) (evK eF t (cN zi)) gF)) / 86400)) + 1)), .int (iI ((i : Int))), .ref oA, .ref sA, .ref eA, .ref gA, .ref cA, .ref rA, .ref fA])), (oA, .inl (cI, 8, .inl (fun j => iI (oI j)))), (sA, .inl (cI, 8, .inl (fun j => iI (sI j)))), (eA, .inl (cJJ, 8, .inr (.inr (.inr (.inr (fun k => some (eR k))))))), (gA, .inl (cGG, 8, .inr (.inr (.inr (.inr (fun k => some (gR k))))))), (cA, .inl (cI, 8, .inl (fun j => iI (cN j : Int)))), (eR zi, .inl (cJ, 660, .inr (.inl (fun j => lL (eF j))))), (gR zi, .inl (cG, 660, .inl (fun j => iI (bI (gF j)))))] H := hP
        have hD : va_D (wA [(mm, .inr (4, [.int (iI fa), .ref tA, .int (iI ((nn : Int))), .int (iI pl), .int (iI yr), .int (iI mn), .int (iI dy), .int (iI ((i : Int))), .ref oA, .ref sA, .ref eA, .ref gA, .ref cA, .ref rA, .ref fA])), (oA, .inl (cI, 8, .inl (fun j => iI (oI j)))), (sA, .inl (cI, 8, .inl (fun j => iI (sI j)))), (eA, .inl (cJJ, 8, .inr (.inr (.inr (.inr (fun k => some (eR k))))))), (gA, .inl (cGG, 8, .inr (.inr (.inr (.inr (fun k => some (gR k))))))), (cA, .inl (cI, 8, .inl (fun j => iI (cN j : Int)))), (eR zi, .inl (cJ, 660, .inr (.inl (fun j => lL (eF j))))), (gR zi, .inl (cG, 660, .inl (fun j => iI (bI (gF j)))))]) [(mm, .inr (4, [.int (iI 0), .ref tA, .int (iI ((nn : Int))), .int (iI pl), .int (iI (cY ((rX t (rMin (oI zi) (sI zi) (evK eF t (cN zi)) gF)) / 86400))), .int (iI (cMo (cY ((rX t (rMin (oI zi) (sI zi) (evK eF t (cN zi)) gF)) / 86400)) ((rX t (rMin (oI zi) (sI zi) (evK eF t (cN zi)) gF)) / 86400))), .int (iI (((rX t (rMin (oI zi) (sI zi) (evK eF t (cN zi)) gF)) / 86400) - cFD (cY ((rX t (rMin (oI zi) (sI zi) (evK eF t (cN zi)) gF)) / 86400)) (cMo (cY ((rX t (rMin (oI zi) (sI zi) (evK eF t (cN zi)) gF)) / 86400)) ((rX t (rMin (oI zi) (sI zi) (evK eF t (cN zi)) gF)) / 86400)) + 1)), .int (iI ((i : Int))), .ref oA, .ref sA, .ref eA, .ref gA, .ref cA, .ref rA, .ref fA])), (oA, .inl (cI, 8, .inl (fun j => iI (oI j)))), (sA, .inl (cI, 8, .inl (fun j => iI (sI j)))), (eA, .inl (cJJ, 8, .inr (.inr (.inr (.inr (fun k => some (eR k))))))), (gA, .inl (cGG, 8, .inr (.inr (.inr (.inr (fun k => some (gR k))))))), (cA, .inl (cI, 8, .inl (fun j => iI (cN j : Int)))), (eR zi, .inl (cJ, 660, .inr (.inl (fun j => lL (eF j))))), (gR zi, .inl (cG, 660, .inl (fun j => iI (bI (gF j)))))] := hD
        refine lv_iload hx hb d_Ref_field_90 (lv_at hl 7 rfl) ?_
        obtain rfl | rfl | rfl | rfl | rfl | rfl | rfl | rfl | rfl : w = 0 ∨ w = 1 ∨ w = 2 ∨ w = 3 ∨ w = 4 ∨ w = 5 ∨ w = 6 ∨ w = 7 ∨ w = 8 := by omega
        · refine lv_tableIn (off := 48) (tgt := 140) hx hb d_Ref_field_92 (by decide) (by decide) (by decide) (by decide) ?_
          refine lv_iload hx hb d_Ref_field_140 (lv_at hl 0 rfl) ?_
          refine lv_bipush (v := iI 60) hx hb d_Ref_field_142 (by decide) ?_
          refine ri_irem hx hb d_Ref_field_144 ?_
          exact m_iret hx hb hr hlk hP hS d_Ref_field_145 (by rfl) (by rfl)
        · refine lv_tableIn (off := 54) (tgt := 146) hx hb d_Ref_field_92 (by decide) (by decide) (by decide) (by decide) ?_
          refine lv_iload hx hb d_Ref_field_146 (lv_at hl 0 rfl) ?_
          refine lv_bipush (v := iI 60) hx hb d_Ref_field_148 (by decide) ?_
          refine ri_idiv hx hb d_Ref_field_150 ?_
          refine lv_bipush (v := iI 60) hx hb d_Ref_field_151 (by decide) ?_
          refine ri_irem hx hb d_Ref_field_153 ?_
          exact m_iret hx hb hr hlk hP hS d_Ref_field_154 (by rfl) (by rfl)
        · refine lv_tableIn (off := 63) (tgt := 155) hx hb d_Ref_field_92 (by decide) (by decide) (by decide) (by decide) ?_
          refine lv_iload hx hb d_Ref_field_155 (lv_at hl 0 rfl) ?_
          refine lv_sipush (v := iI 3600) hx hb d_Ref_field_157 (by decide) ?_
          refine ri_idiv hx hb d_Ref_field_160 ?_
          exact m_iret hx hb hr hlk hP hS d_Ref_field_161 (by rfl) (by rfl)
        · refine lv_tableIn (off := 70) (tgt := 162) hx hb d_Ref_field_92 (by decide) (by decide) (by decide) (by decide) ?_
          refine lv_aload_n hx hb d_Ref_field_162 rfl (lv_at hl 4 rfl) ?_
          refine g_get hx hb hk hown hK hP 0 rfl f_Ref_69 rfl d_Ref_field_163 ?_
          exact m_iret hx hb hr hlk hP hS d_Ref_field_166 (by rfl) (by rfl)
        · refine lv_tableIn (off := 75) (tgt := 167) hx hb d_Ref_field_92 (by decide) (by decide) (by decide) (by decide) ?_
          refine lv_aload_n hx hb d_Ref_field_167 rfl (lv_at hl 4 rfl) ?_
          refine g_get hx hb hk hown hK hP 0 rfl f_Ref_66 rfl d_Ref_field_168 ?_
          exact m_iret hx hb hr hlk hP hS d_Ref_field_171 (by rfl) (by rfl)
        · refine lv_tableIn (off := 80) (tgt := 172) hx hb d_Ref_field_92 (by decide) (by decide) (by decide) (by decide) ?_
          refine lv_aload_n hx hb d_Ref_field_172 rfl (lv_at hl 4 rfl) ?_
          refine g_get hx hb hk hown hK hP 0 rfl f_Ref_60 rfl d_Ref_field_173 ?_
          exact m_iret hx hb hr hlk hP hS d_Ref_field_176 (by rfl) (by rfl)
        · refine lv_tableIn (off := 85) (tgt := 177) hx hb d_Ref_field_92 (by decide) (by decide) (by decide) (by decide) ?_
          refine lv_iload hx hb d_Ref_field_177 (lv_at hl 1 rfl) ?_
          refine p_callS (rest := []) hx hb (hml.trans hl.1.symm) hown hk hK k_Ref_105 (ct_Ref_weekday l D tys ((rX t (rMin (oI zi) (sI zi) (evK eF t (cN zi)) gF)) / 86400) (by omega) (by omega)) nil_P nil_D rfl rfl ⟨rfl, rfl⟩ ⟨by decide, by decide, by decide, by decide⟩ (Nat.le_of_ble_eq_true rfl) d_Ref_field_179 ?_
          exact m_iret hx hb hr hlk hP hS d_Ref_field_182 (by rfl) (by rfl)
        · refine lv_tableIn (off := 91) (tgt := 183) hx hb d_Ref_field_92 (by decide) (by decide) (by decide) (by decide) ?_
          refine lv_aload_n hx hb d_Ref_field_183 rfl (lv_at hl 4 rfl) ?_
          refine lv_iload_n hx hb d_Ref_field_184 rfl (lv_at hl 5 rfl) ?_
          refine lv_iload hx hb d_Ref_field_185 (lv_at hl 3 rfl) ?_
          refine p_callV (rest := []) (q0 := 0) hx hb (hml.trans hl.1.symm) hown hk hK k_Ref_132 (ct_Ref_minutes l D tys mm tA oA sA eA gA cA rA fA 0 nn pl (cY ((rX t (rMin (oI zi) (sI zi) (evK eF t (cN zi)) gF)) / 86400)) (cMo (cY ((rX t (rMin (oI zi) (sI zi) (evK eF t (cN zi)) gF)) / 86400)) ((rX t (rMin (oI zi) (sI zi) (evK eF t (cN zi)) gF)) / 86400)) (((rX t (rMin (oI zi) (sI zi) (evK eF t (cN zi)) gF)) / 86400) - cFD (cY ((rX t (rMin (oI zi) (sI zi) (evK eF t (cN zi)) gF)) / 86400)) (cMo (cY ((rX t (rMin (oI zi) (sI zi) (evK eF t (cN zi)) gF)) / 86400)) ((rX t (rMin (oI zi) (sI zi) (evK eF t (cN zi)) gF)) / 86400)) + 1) i cI cJ cG cJJ cGG oI sI cN eR gR zi eF gF (evK eF t (cN zi)) hI hJ hG hJJ hGG gz (by omega)) (w_subP (is := [0, 1, 2, 3, 4, 5, 6, 7]) hP rfl) (w_subD (is := [0, 1, 2, 3, 4, 5, 6, 7]) hD rfl rfl) rfl rfl rfl rfl ⟨rfl, rfl⟩ ⟨by decide, by decide, by decide, by decide⟩ (Nat.le_of_ble_eq_true rfl) d_Ref_field_187 ?_
          exact m_iret hx hb hr hlk hP hS d_Ref_field_190 (by rfl) (by rfl)
        · refine lv_tableOut (tgt := 191) hx hb d_Ref_field_92 (by decide) (by decide) ?_
          refine lv_aload_n hx hb d_Ref_field_191 rfl (lv_at hl 4 rfl) ?_
          refine lv_iload_n hx hb d_Ref_field_192 rfl (lv_at hl 5 rfl) ?_
          refine lv_iload hx hb d_Ref_field_193 (lv_at hl 3 rfl) ?_
          refine p_callV (rest := []) (q0 := 0) hx hb (hml.trans hl.1.symm) hown hk hK k_Ref_167 (ct_Ref_summer l D tys mm tA oA sA eA gA cA rA fA 0 nn pl (cY ((rX t (rMin (oI zi) (sI zi) (evK eF t (cN zi)) gF)) / 86400)) (cMo (cY ((rX t (rMin (oI zi) (sI zi) (evK eF t (cN zi)) gF)) / 86400)) ((rX t (rMin (oI zi) (sI zi) (evK eF t (cN zi)) gF)) / 86400)) (((rX t (rMin (oI zi) (sI zi) (evK eF t (cN zi)) gF)) / 86400) - cFD (cY ((rX t (rMin (oI zi) (sI zi) (evK eF t (cN zi)) gF)) / 86400)) (cMo (cY ((rX t (rMin (oI zi) (sI zi) (evK eF t (cN zi)) gF)) / 86400)) ((rX t (rMin (oI zi) (sI zi) (evK eF t (cN zi)) gF)) / 86400)) + 1) i cI cJ cG cJJ cGG oI sI cN eR gR zi eF gF (evK eF t (cN zi)) hI hJ hG hJJ hGG gz (by omega)) (w_subP (is := [0, 1, 2, 3, 4, 5, 6, 7]) hP rfl) (w_subD (is := [0, 1, 2, 3, 4, 5, 6, 7]) hD rfl rfl) rfl rfl rfl rfl ⟨rfl, rfl⟩ ⟨by decide, by decide, by decide, by decide⟩ (Nat.le_of_ble_eq_true rfl) d_Ref_field_195 ?_
          have gW := bI_b (decide (0 < evK eF t (cN zi)) && gF (evK eF t (cN zi) - 1))
          refine ri_if_eq (tgt := 205) hx hb d_Ref_field_198 (by decide) (fun h198 => ?_) (fun h198 => ?_)
          · refine lv_iconst (v := iI 0) hx hb d_Ref_field_205 rfl ?_
            exact m_iret hx hb hr hlk hP hS d_Ref_field_206 (by rfl) (by first | (show (1 : Int) = bI (decide (0 < evK eF t (cN zi)) && gF (evK eF t (cN zi) - 1)); rw [bI_e1 h198]; rfl) | (show (0 : Int) = bI (decide (0 < evK eF t (cN zi)) && gF (evK eF t (cN zi) - 1)); rw [bI_e0 h198]; rfl))
          · refine lv_iconst (v := iI 1) hx hb d_Ref_field_201 rfl ?_
            refine lv_goto (tgt := 206) hx hb d_Ref_field_202 (by decide) ?_
            exact m_iret hx hb hr hlk hP hS d_Ref_field_206 (by rfl) (by first | (show (1 : Int) = bI (decide (0 < evK eF t (cN zi)) && gF (evK eF t (cN zi) - 1)); rw [bI_e1 h198]; rfl) | (show (0 : Int) = bI (decide (0 < evK eF t (cN zi)) && gF (evK eF t (cN zi) - 1)); rw [bI_e0 h198]; rfl))
      · exfalso; omega
abbrev rm_Ref_field_b : Room := { frames := 1, cells := 0, slots := 0, locals := 29 }
set_option maxHeartbeats 4000000 in
set_option maxRecDepth 100000 in
theorem ct_Ref_field_b (l : Launch) (D : va_G) (tys : List (ClassId × FieldType)) (mm : Nat) (tA : Nat) (oA : Nat) (sA : Nat) (eA : Nat) (gA : Nat) (cA : Nat) (rA : Nat) (fA : Nat) (fa : Int) (nn : Nat) (pl : Int) (yr : Int) (mn : Int) (dy : Int) (i : Nat) (z : Int) (t : Int) (w : Int) (gz1 : -2147483648 ≤ z) (gz2 : z ≤ 2147483647) (gi1 : -9223372036854775808 ≤ t) (gi2 : t ≤ 9223372036854775807) (gwi1 : -2147483648 ≤ w) (gwi2 : w ≤ 2147483647) (gbad : (z < 0 ∨ 7 < z ∨ t < 0 ∨ 10413791999999 < t) ∨ w < 0 ∨ 8 < w) : mMet l y_Ref_field c_Ref_field 10 (some .int) rm_Ref_field_b D tys [.ref mm, .int (iI z), .long (lL t), .int (iI w)] [(mm, .inr (4, [.int (iI fa), .ref tA, .int (iI ((nn : Int))), .int (iI pl), .int (iI yr), .int (iI mn), .int (iI dy), .int (iI ((i : Int))), .ref oA, .ref sA, .ref eA, .ref gA, .ref cA, .ref rA, .ref fA]))] (some (.int (iI 0))) [(mm, .inr (4, [.int (iI 1), .ref tA, .int (iI ((nn : Int))), .int (iI pl), .int (iI yr), .int (iI mn), .int (iI dy), .int (iI ((i : Int))), .ref oA, .ref sA, .ref eA, .ref gA, .ref cA, .ref rA, .ref fA]))] := by
  refine mMet_of (by decide) (Nat.le_of_ble_eq_true rfl) ?_
  intro p e s m below meth c hx hb hr hown hlk hml hk hK hP hD hS ls hl
  have hl : lv_has ls 10 [(0, .ref mm), (1, .int (iI z)), (2, .long (lL t)), (4, .int (iI w))] := hl
  refine lv_aload_n hx hb d_Ref_field_0 rfl (lv_at hl 0 rfl) ?_
  refine lv_iconst (v := iI 0) hx hb d_Ref_field_1 rfl ?_
  refine g_put hx hb hk hown hK hP hD hS 0 rfl f_Ref_44 fT_Ref rfl (rfl) rfl (Nat.le_of_ble_eq_true rfl) d_Ref_field_2 (fun H locs hP hD hS => ?_)
  have hP : va_P D vwCl [(mm, .inr (4, [.int (iI 0), .ref tA, .int (iI ((nn : Int))), .int (iI pl), .int (iI yr), .int (iI mn), .int (iI dy), .int (iI ((i : Int))), .ref oA, .ref sA, .ref eA, .ref gA, .ref cA, .ref rA, .ref fA]))] H := hP
  have hD : va_D (wA [(mm, .inr (4, [.int (iI fa), .ref tA, .int (iI ((nn : Int))), .int (iI pl), .int (iI yr), .int (iI mn), .int (iI dy), .int (iI ((i : Int))), .ref oA, .ref sA, .ref eA, .ref gA, .ref cA, .ref rA, .ref fA]))]) [(mm, .inr (4, [.int (iI 0), .ref tA, .int (iI ((nn : Int))), .int (iI pl), .int (iI yr), .int (iI mn), .int (iI dy), .int (iI ((i : Int))), .ref oA, .ref sA, .ref eA, .ref gA, .ref cA, .ref rA, .ref fA]))] := hD
  refine lv_aload_n hx hb d_Ref_field_5 rfl (lv_at hl 0 rfl) ?_
  refine lv_iload_n hx hb d_Ref_field_6 rfl (lv_at hl 1 rfl) ?_
  refine lv_lload_n hx hb d_Ref_field_7 rfl (lv_at hl 2 rfl) ?_
  refine p_callV (rest := []) (q0 := 0) hx hb (hml.trans hl.1.symm) hown hk hK k_Ref_137 (ct_Ref_out l D tys mm tA oA sA eA gA cA rA fA 0 nn pl yr mn dy i z t (by omega) (by omega) (by omega) (by omega)) (w_subP (is := [0]) hP rfl) (w_subD (is := [0]) hD rfl rfl) rfl rfl rfl rfl ⟨rfl, rfl⟩ ⟨by decide, by decide, by decide, by decide⟩ (Nat.le_of_ble_eq_true rfl) d_Ref_field_8 ?_
  have gO3 := bI_b (zOutB z t)
  have gO4 : bI (zOutB z t) = 0 → ¬ (z < 0 ∨ 7 < z ∨ t < 0 ∨ 10413791999999 < t) := by intro h; have h2 := bI_e0 h; unfold zOutB at h2; exact of_decide_eq_false h2
  refine ri_if_ne (tgt := 26) hx hb d_Ref_field_11 (by decide) (fun h11 => ?_) (fun h11 => ?_)
  · refine lv_aload_n hx hb d_Ref_field_26 rfl (lv_at hl 0 rfl) ?_
    refine lv_iconst (v := iI 1) hx hb d_Ref_field_27 rfl ?_
    refine m_callV (rest := []) (q0 := 0) hx hb (hml.trans hl.1.symm) hown hk hK k_Ref_141 (ct_Ref_fail l D tys mm tA oA sA eA gA cA rA fA 0 nn pl yr mn dy i 1 ) hP hD hS [0] rfl rfl rfl rfl rfl rfl rfl ⟨rfl, rfl⟩ ⟨by decide, by decide, by decide, by decide⟩ (Nat.le_of_ble_eq_true rfl) d_Ref_field_28 (fun H locs hP hD hS => ?_)
    have hP : va_P D vwCl [(mm, .inr (4, [.int (iI 1), .ref tA, .int (iI ((nn : Int))), .int (iI pl), .int (iI yr), .int (iI mn), .int (iI dy), .int (iI ((i : Int))), .ref oA, .ref sA, .ref eA, .ref gA, .ref cA, .ref rA, .ref fA]))] H := hP
    have hD : va_D (wA [(mm, .inr (4, [.int (iI fa), .ref tA, .int (iI ((nn : Int))), .int (iI pl), .int (iI yr), .int (iI mn), .int (iI dy), .int (iI ((i : Int))), .ref oA, .ref sA, .ref eA, .ref gA, .ref cA, .ref rA, .ref fA]))]) [(mm, .inr (4, [.int (iI 1), .ref tA, .int (iI ((nn : Int))), .int (iI pl), .int (iI yr), .int (iI mn), .int (iI dy), .int (iI ((i : Int))), .ref oA, .ref sA, .ref eA, .ref gA, .ref cA, .ref rA, .ref fA]))] := hD
    exact m_iret hx hb hr hlk hP hS d_Ref_field_31 (by rfl) (by rfl)
  · refine lv_iload hx hb d_Ref_field_14 (lv_at hl 3 rfl) ?_
    refine ri_if_lt (tgt := 26) hx hb d_Ref_field_16 (by decide) (fun h16 => ?_) (fun h16 => ?_)
    · refine lv_aload_n hx hb d_Ref_field_26 rfl (lv_at hl 0 rfl) ?_
      refine lv_iconst (v := iI 1) hx hb d_Ref_field_27 rfl ?_
      refine m_callV (rest := []) (q0 := 0) hx hb (hml.trans hl.1.symm) hown hk hK k_Ref_141 (ct_Ref_fail l D tys mm tA oA sA eA gA cA rA fA 0 nn pl yr mn dy i 1 ) hP hD hS [0] rfl rfl rfl rfl rfl rfl rfl ⟨rfl, rfl⟩ ⟨by decide, by decide, by decide, by decide⟩ (Nat.le_of_ble_eq_true rfl) d_Ref_field_28 (fun H locs hP hD hS => ?_)
      have hP : va_P D vwCl [(mm, .inr (4, [.int (iI 1), .ref tA, .int (iI ((nn : Int))), .int (iI pl), .int (iI yr), .int (iI mn), .int (iI dy), .int (iI ((i : Int))), .ref oA, .ref sA, .ref eA, .ref gA, .ref cA, .ref rA, .ref fA]))] H := hP
      have hD : va_D (wA [(mm, .inr (4, [.int (iI fa), .ref tA, .int (iI ((nn : Int))), .int (iI pl), .int (iI yr), .int (iI mn), .int (iI dy), .int (iI ((i : Int))), .ref oA, .ref sA, .ref eA, .ref gA, .ref cA, .ref rA, .ref fA]))]) [(mm, .inr (4, [.int (iI 1), .ref tA, .int (iI ((nn : Int))), .int (iI pl), .int (iI yr), .int (iI mn), .int (iI dy), .int (iI ((i : Int))), .ref oA, .ref sA, .ref eA, .ref gA, .ref cA, .ref rA, .ref fA]))] := hD
      exact m_iret hx hb hr hlk hP hS d_Ref_field_31 (by rfl) (by rfl)
    · refine lv_iload hx hb d_Ref_field_19 (lv_at hl 3 rfl) ?_
      refine lv_bipush (v := iI 8) hx hb d_Ref_field_21 (by decide) ?_
      refine ri_icmp_le (tgt := 32) hx hb d_Ref_field_23 (by decide) (fun h23 => ?_) (fun h23 => ?_)
      · exfalso; omega
      · refine lv_aload_n hx hb d_Ref_field_26 rfl (lv_at hl 0 rfl) ?_
        refine lv_iconst (v := iI 1) hx hb d_Ref_field_27 rfl ?_
        refine m_callV (rest := []) (q0 := 0) hx hb (hml.trans hl.1.symm) hown hk hK k_Ref_141 (ct_Ref_fail l D tys mm tA oA sA eA gA cA rA fA 0 nn pl yr mn dy i 1 ) hP hD hS [0] rfl rfl rfl rfl rfl rfl rfl ⟨rfl, rfl⟩ ⟨by decide, by decide, by decide, by decide⟩ (Nat.le_of_ble_eq_true rfl) d_Ref_field_28 (fun H locs hP hD hS => ?_)
        have hP : va_P D vwCl [(mm, .inr (4, [.int (iI 1), .ref tA, .int (iI ((nn : Int))), .int (iI pl), .int (iI yr), .int (iI mn), .int (iI dy), .int (iI ((i : Int))), .ref oA, .ref sA, .ref eA, .ref gA, .ref cA, .ref rA, .ref fA]))] H := hP
        have hD : va_D (wA [(mm, .inr (4, [.int (iI fa), .ref tA, .int (iI ((nn : Int))), .int (iI pl), .int (iI yr), .int (iI mn), .int (iI dy), .int (iI ((i : Int))), .ref oA, .ref sA, .ref eA, .ref gA, .ref cA, .ref rA, .ref fA]))]) [(mm, .inr (4, [.int (iI 1), .ref tA, .int (iI ((nn : Int))), .int (iI pl), .int (iI yr), .int (iI mn), .int (iI dy), .int (iI ((i : Int))), .ref oA, .ref sA, .ref eA, .ref gA, .ref cA, .ref rA, .ref fA]))] := hD
        exact m_iret hx hb hr hlk hP hS d_Ref_field_31 (by rfl) (by rfl)
abbrev rm_Ref_feed : Room := { frames := 0, cells := 0, slots := 0, locals := 0 }
set_option maxHeartbeats 4000000 in
set_option maxRecDepth 100000 in
theorem ct_Ref_feed (l : Launch) (D : va_G) (tys : List (ClassId × FieldType)) (mm : Nat) (tA : Nat) (oA : Nat) (sA : Nat) (eA : Nat) (gA : Nat) (cA : Nat) (rA : Nat) (fA : Nat) (fa : Int) (nn : Nat) (pl : Int) (yr : Int) (mn : Int) (dy : Int) (i : Nat) (cB : ClassId) (f : Nat → Int32) (k1 : Int32) (k2 : Int32) (k3 : Int32) (k4 : Int32) (k5 : Int32) (hty : tys[0]? = some (cB, .byte)) (gn20 : nn + 20 ≤ 400) : mMet l y_Ref_feed c_Ref_feed 8 (some .int) rm_Ref_feed D tys [.ref mm, .int k1, .int k2, .int k3, .int k4, .int k5] [(mm, .inr (4, [.int (iI fa), .ref tA, .int (iI ((nn : Int))), .int (iI pl), .int (iI yr), .int (iI mn), .int (iI dy), .int (iI ((i : Int))), .ref oA, .ref sA, .ref eA, .ref gA, .ref cA, .ref rA, .ref fA])), (tA, .inl (cB, 400, .inl f))] (some (.int (iI ((nn : Int) + 20)))) [(mm, .inr (4, [.int (iI 0), .ref tA, .int (iI (((nn + 20 : Nat) : Int))), .int (iI pl), .int (iI yr), .int (iI mn), .int (iI dy), .int (iI ((i : Int))), .ref oA, .ref sA, .ref eA, .ref gA, .ref cA, .ref rA, .ref fA])), (tA, .inl (cB, 400, .inl (ap20 f nn k1 k2 k3 k4 k5)))] := by
  refine mMet_of (by decide) (Nat.le_of_ble_eq_true rfl) ?_
  intro p e s m below meth c hx hb hr hown hlk hml hk hK hP hD hS ls hl
  have hl : lv_has ls 8 [(0, .ref mm), (1, .int k1), (2, .int k2), (3, .int k3), (4, .int k4), (5, .int k5)] := hl
  refine lv_aload_n hx hb d_Ref_feed_0 rfl (lv_at hl 0 rfl) ?_
  refine lv_iconst (v := iI 0) hx hb d_Ref_feed_1 rfl ?_
  refine g_put hx hb hk hown hK hP hD hS 0 rfl f_Ref_44 fT_Ref rfl (rfl) rfl (Nat.le_of_ble_eq_true rfl) d_Ref_feed_2 (fun H locs hP hD hS => ?_)
  have hP : va_P D vwCl [(mm, .inr (4, [.int (iI 0), .ref tA, .int (iI ((nn : Int))), .int (iI pl), .int (iI yr), .int (iI mn), .int (iI dy), .int (iI ((i : Int))), .ref oA, .ref sA, .ref eA, .ref gA, .ref cA, .ref rA, .ref fA])), (tA, .inl (cB, 400, .inl f))] H := hP
  have hD : va_D (wA [(mm, .inr (4, [.int (iI fa), .ref tA, .int (iI ((nn : Int))), .int (iI pl), .int (iI yr), .int (iI mn), .int (iI dy), .int (iI ((i : Int))), .ref oA, .ref sA, .ref eA, .ref gA, .ref cA, .ref rA, .ref fA])), (tA, .inl (cB, 400, .inl f))]) [(mm, .inr (4, [.int (iI 0), .ref tA, .int (iI ((nn : Int))), .int (iI pl), .int (iI yr), .int (iI mn), .int (iI dy), .int (iI ((i : Int))), .ref oA, .ref sA, .ref eA, .ref gA, .ref cA, .ref rA, .ref fA])), (tA, .inl (cB, 400, .inl f))] := hD
  refine lv_aload_n hx hb d_Ref_feed_5 rfl (lv_at hl 0 rfl) ?_
  refine g_get hx hb hk hown hK hP 0 rfl f_Ref_81 rfl d_Ref_feed_6 ?_
  refine lv_bipush (v := iI 20) hx hb d_Ref_feed_9 (by decide) ?_
  refine ri_iadd hx hb d_Ref_feed_11 ?_
  refine lv_sipush (v := iI 400) hx hb d_Ref_feed_12 (by decide) ?_
  refine ri_icmp_le (tgt := 24) hx hb d_Ref_feed_15 (by decide) (fun h15 => ?_) (fun h15 => ?_)
  · refine lv_iconst (v := iI 0) hx hb d_Ref_feed_24 rfl ?_
    refine lv_istore (lv' := [(6, .int (iI 0)), (0, .ref mm), (1, .int k1), (2, .int k2), (3, .int k3), (4, .int k4), (5, .int k5)]) hx hb d_Ref_feed_25 hl (by decide) rfl (fun ls hl => ?_)
    have hl : lv_has ls 8 [(6, .int (iI ((0 : Int)))), (0, .ref mm), (1, .int k1), (2, .int k2), (3, .int k3), (4, .int k4), (5, .int k5)] := hl
    have hP : va_P D vwCl [(mm, .inr (4, [.int (iI 0), .ref tA, .int (iI (((nn + 0 : Nat) : Int))), .int (iI pl), .int (iI yr), .int (iI mn), .int (iI dy), .int (iI ((i : Int))), .ref oA, .ref sA, .ref eA, .ref gA, .ref cA, .ref rA, .ref fA])), (tA, .inl (cB, 400, .inl (apn f nn k1 k2 k3 k4 k5 0)))] H := hP
    have hD : va_D (wA [(mm, .inr (4, [.int (iI fa), .ref tA, .int (iI ((nn : Int))), .int (iI pl), .int (iI yr), .int (iI mn), .int (iI dy), .int (iI ((i : Int))), .ref oA, .ref sA, .ref eA, .ref gA, .ref cA, .ref rA, .ref fA])), (tA, .inl (cB, 400, .inl f))]) [(mm, .inr (4, [.int (iI 0), .ref tA, .int (iI (((nn + 0 : Nat) : Int))), .int (iI pl), .int (iI yr), .int (iI mn), .int (iI dy), .int (iI ((i : Int))), .ref oA, .ref sA, .ref eA, .ref gA, .ref cA, .ref rA, .ref fA])), (tA, .inl (cB, 400, .inl (apn f nn k1 k2 k3 k4 k5 0)))] := hD
    have loop27 : ∀ (n : Nat) (a : Nat) (ls : Array Slot) (H : Heap) (locs : List Loc), (a ≤ 20) → 20 - a = n → va_P D vwCl [(mm, .inr (4, [.int (iI 0), .ref tA, .int (iI (((nn + a : Nat) : Int))), .int (iI pl), .int (iI yr), .int (iI mn), .int (iI dy), .int (iI ((i : Int))), .ref oA, .ref sA, .ref eA, .ref gA, .ref cA, .ref rA, .ref fA])), (tA, .inl (cB, 400, .inl (apn f nn k1 k2 k3 k4 k5 a)))] H → va_D (wA [(mm, .inr (4, [.int (iI fa), .ref tA, .int (iI ((nn : Int))), .int (iI pl), .int (iI yr), .int (iI mn), .int (iI dy), .int (iI ((i : Int))), .ref oA, .ref sA, .ref eA, .ref gA, .ref cA, .ref rA, .ref fA])), (tA, .inl (cB, 400, .inl f))]) [(mm, .inr (4, [.int (iI 0), .ref tA, .int (iI (((nn + a : Nat) : Int))), .int (iI pl), .int (iI yr), .int (iI mn), .int (iI dy), .int (iI ((i : Int))), .ref oA, .ref sA, .ref eA, .ref gA, .ref cA, .ref rA, .ref fA])), (tA, .inl (cB, 400, .inl (apn f nn k1 k2 k3 k4 k5 a)))] → va_S (wA [(mm, .inr (4, [.int (iI fa), .ref tA, .int (iI ((nn : Int))), .int (iI pl), .int (iI yr), .int (iI mn), .int (iI dy), .int (iI ((i : Int))), .ref oA, .ref sA, .ref eA, .ref gA, .ref cA, .ref rA, .ref fA])), (tA, .inl (cB, 400, .inl f))]) s.heap H locs → lv_has ls 8 [(6, .int (iI ((a : Int)))), (0, .ref mm), (1, .int k1), (2, .int k2), (3, .int k3), (4, .int k4), (5, .int k5)] → W p l e rm_Ref_feed s m ([.ref mm, .int k1, .int k2, .int k3, .int k4, .int k5] : List Value).toArray below meth c H locs 0 0 (MQ below (mQ D [(mm, .inr (4, [.int (iI fa), .ref tA, .int (iI ((nn : Int))), .int (iI pl), .int (iI yr), .int (iI mn), .int (iI dy), .int (iI ((i : Int))), .ref oA, .ref sA, .ref eA, .ref gA, .ref cA, .ref rA, .ref fA])), (tA, .inl (cB, 400, .inl f))] (some (.int (iI ((nn : Int) + 20)))) [(mm, .inr (4, [.int (iI 0), .ref tA, .int (iI (((nn + 20 : Nat) : Int))), .int (iI pl), .int (iI yr), .int (iI mn), .int (iI dy), .int (iI ((i : Int))), .ref oA, .ref sA, .ref eA, .ref gA, .ref cA, .ref rA, .ref fA])), (tA, .inl (cB, 400, .inl (ap20 f nn k1 k2 k3 k4 k5)))]) ([.ref mm, .int k1, .int k2, .int k3, .int k4, .int k5] : List Value).toArray s 0 0 (wA [(mm, .inr (4, [.int (iI fa), .ref tA, .int (iI ((nn : Int))), .int (iI pl), .int (iI yr), .int (iI mn), .int (iI dy), .int (iI ((i : Int))), .ref oA, .ref sA, .ref eA, .ref gA, .ref cA, .ref rA, .ref fA])), (tA, .inl (cB, 400, .inl f))])) (F0 m 27 ls []) := by
      intro n
      induction n using Nat.strongRecOn with
      | _ n ih =>
      intro a ls H locs ha hn hP hD hS hl
      refine lv_iload hx hb d_Ref_feed_27 (lv_at hl 0 rfl) ?_
      refine lv_bipush (v := iI 20) hx hb d_Ref_feed_29 (by decide) ?_
      refine ri_icmp_ge (tgt := 121) hx hb d_Ref_feed_31 (by decide) (fun h31 => ?_) (fun h31 => ?_)
      · refine lv_aload_n hx hb d_Ref_feed_121 rfl (lv_at hl 1 rfl) ?_
        refine g_get hx hb hk hown hK hP 0 rfl f_Ref_81 rfl d_Ref_feed_122 ?_
        obtain rfl : a = 20 := by omega
        exact m_iret hx hb hr hlk hP hS d_Ref_feed_125 (by rw [apn_20]) (by omega)
      · refine lv_iload hx hb d_Ref_feed_34 (lv_at hl 0 rfl) ?_
        refine lv_iconst (v := iI 4) hx hb d_Ref_feed_36 rfl ?_
        refine ri_icmp_ge (tgt := 44) hx hb d_Ref_feed_37 (by decide) (fun h37 => ?_) (fun h37 => ?_)
        · refine lv_iload hx hb d_Ref_feed_44 (lv_at hl 0 rfl) ?_
          refine lv_bipush (v := iI 8) hx hb d_Ref_feed_46 (by decide) ?_
          refine ri_icmp_ge (tgt := 55) hx hb d_Ref_feed_48 (by decide) (fun h48 => ?_) (fun h48 => ?_)
          · refine lv_iload hx hb d_Ref_feed_55 (lv_at hl 0 rfl) ?_
            refine lv_bipush (v := iI 12) hx hb d_Ref_feed_57 (by decide) ?_
            refine ri_icmp_ge (tgt := 66) hx hb d_Ref_feed_59 (by decide) (fun h59 => ?_) (fun h59 => ?_)
            · refine lv_iload hx hb d_Ref_feed_66 (lv_at hl 0 rfl) ?_
              refine lv_bipush (v := iI 16) hx hb d_Ref_feed_68 (by decide) ?_
              refine ri_icmp_ge (tgt := 78) hx hb d_Ref_feed_70 (by decide) (fun h70 => ?_) (fun h70 => ?_)
              · refine lv_iload hx hb d_Ref_feed_78 (lv_at hl 6 rfl) ?_
                refine lv_istore (lv' := [(7, .int k5), (6, .int (iI ((a : Int)))), (0, .ref mm), (1, .int k1), (2, .int k2), (3, .int k3), (4, .int k4), (5, .int k5)]) hx hb d_Ref_feed_80 hl (by decide) rfl (fun ls hl => ?_)
                refine lv_aload_n hx hb d_Ref_feed_82 rfl (lv_at hl 2 rfl) ?_
                refine g_get hx hb hk hown hK hP 0 rfl f_Ref_7 rfl d_Ref_feed_83 ?_
                refine lv_aload_n hx hb d_Ref_feed_86 rfl (lv_at hl 2 rfl) ?_
                refine g_get hx hb hk hown hK hP 0 rfl f_Ref_81 rfl d_Ref_feed_87 ?_
                refine lv_iload hx hb d_Ref_feed_90 (lv_at hl 0 rfl) ?_
                refine lv_bipush (v := iI 24) hx hb d_Ref_feed_92 (by decide) ?_
                refine lv_bipush (v := iI 8) hx hb d_Ref_feed_94 (by decide) ?_
                refine lv_iload hx hb d_Ref_feed_96 (lv_at hl 1 rfl) ?_
                refine lv_iconst (v := iI 4) hx hb d_Ref_feed_98 rfl ?_
                refine ri_irem hx hb d_Ref_feed_99 ?_
                refine ri_imul hx hb d_Ref_feed_100 ?_
                refine ri_isub hx hb d_Ref_feed_101 ?_
                refine lv_ishr hx hb d_Ref_feed_102 ?_
                refine lv_i2b (v := bs k5 (24 - (8 * (((a : Int)) % 4)))) hx hb d_Ref_feed_103 rfl ?_
                refine g_bast (i := nn + a) hx hb hK hP hD hS 1 0 rfl hty d_Ref_feed_104 (fun H locs hP hD hS => ?_) (pk_vb _) (by omega) (by decide)
                have hP : va_P D vwCl [(mm, .inr (4, [.int (iI 0), .ref tA, .int (iI (((nn + a : Nat) : Int))), .int (iI pl), .int (iI yr), .int (iI mn), .int (iI dy), .int (iI ((i : Int))), .ref oA, .ref sA, .ref eA, .ref gA, .ref cA, .ref rA, .ref fA])), (tA, .inl (cB, 400, .inl (upd (apn f nn k1 k2 k3 k4 k5 a) (nn + a) (bs k5 (24 - (8 * (((a : Int)) % 4)))))))] H := hP
                have hD : va_D (wA [(mm, .inr (4, [.int (iI fa), .ref tA, .int (iI ((nn : Int))), .int (iI pl), .int (iI yr), .int (iI mn), .int (iI dy), .int (iI ((i : Int))), .ref oA, .ref sA, .ref eA, .ref gA, .ref cA, .ref rA, .ref fA])), (tA, .inl (cB, 400, .inl f))]) [(mm, .inr (4, [.int (iI 0), .ref tA, .int (iI (((nn + a : Nat) : Int))), .int (iI pl), .int (iI yr), .int (iI mn), .int (iI dy), .int (iI ((i : Int))), .ref oA, .ref sA, .ref eA, .ref gA, .ref cA, .ref rA, .ref fA])), (tA, .inl (cB, 400, .inl (upd (apn f nn k1 k2 k3 k4 k5 a) (nn + a) (bs k5 (24 - (8 * (((a : Int)) % 4)))))))] := hD
                have eU := apn_s (f := f) (n := nn) (k := a) (a := k1) (b := k2) (c := k3) (d := k4) (e := k5) (w := k5) (by simp only [wsel]; (repeat' split) <;> first | rfl | omega)
                rw [eU] at hP hD
                refine lv_aload_n hx hb d_Ref_feed_105 rfl (lv_at hl 2 rfl) ?_
                refine lv_dup hx hb d_Ref_feed_106 rfl ?_
                refine g_get hx hb hk hown hK hP 0 rfl f_Ref_81 rfl d_Ref_feed_107 ?_
                refine lv_iconst (v := iI 1) hx hb d_Ref_feed_110 rfl ?_
                refine ri_iadd hx hb d_Ref_feed_111 ?_
                refine ri_i (show (((nn + a : Nat) : Int)) + 1 = ((nn + (a + 1) : Nat) : Int) from by omega) ?_
                refine g_put hx hb hk hown hK hP hD hS 0 rfl f_Ref_81 fT_Ref rfl (rfl) rfl (Nat.le_of_ble_eq_true rfl) d_Ref_feed_112 (fun H locs hP hD hS => ?_)
                have hP : va_P D vwCl [(mm, .inr (4, [.int (iI 0), .ref tA, .int (iI (((nn + (a + 1) : Nat) : Int))), .int (iI pl), .int (iI yr), .int (iI mn), .int (iI dy), .int (iI ((i : Int))), .ref oA, .ref sA, .ref eA, .ref gA, .ref cA, .ref rA, .ref fA])), (tA, .inl (cB, 400, .inl (apn f nn k1 k2 k3 k4 k5 (a + 1))))] H := hP
                have hD : va_D (wA [(mm, .inr (4, [.int (iI fa), .ref tA, .int (iI ((nn : Int))), .int (iI pl), .int (iI yr), .int (iI mn), .int (iI dy), .int (iI ((i : Int))), .ref oA, .ref sA, .ref eA, .ref gA, .ref cA, .ref rA, .ref fA])), (tA, .inl (cB, 400, .inl f))]) [(mm, .inr (4, [.int (iI 0), .ref tA, .int (iI (((nn + (a + 1) : Nat) : Int))), .int (iI pl), .int (iI yr), .int (iI mn), .int (iI dy), .int (iI ((i : Int))), .ref oA, .ref sA, .ref eA, .ref gA, .ref cA, .ref rA, .ref fA])), (tA, .inl (cB, 400, .inl (apn f nn k1 k2 k3 k4 k5 (a + 1))))] := hD
                refine lv_iinc (k := 1) (v := iI ((a : Int) + 1)) (lv' := [(6, .int (iI ((a : Int) + 1))), (7, .int k5), (0, .ref mm), (1, .int k1), (2, .int k2), (3, .int k3), (4, .int k4), (5, .int k5)]) hx hb d_Ref_feed_115 hl rfl (iI_add _ _) (by decide) rfl (fun ls hl => ?_)
                refine lv_goto (tgt := 27) hx hb d_Ref_feed_118 (by decide) ?_
                have hl : lv_has ls 8 [(6, .int (iI (((a + 1 : Nat) : Int)))), (7, .int k5), (0, .ref mm), (1, .int k1), (2, .int k2), (3, .int k3), (4, .int k4), (5, .int k5)] := hl
                exact ih _ (by omega) (a + 1) ls _ _ (by omega) rfl hP hD hS (lv_sub hl [0, 2, 3, 4, 5, 6, 7] rfl)
              · refine lv_iload hx hb d_Ref_feed_73 (lv_at hl 5 rfl) ?_
                refine lv_goto (tgt := 80) hx hb d_Ref_feed_75 (by decide) ?_
                refine lv_istore (lv' := [(7, .int k4), (6, .int (iI ((a : Int)))), (0, .ref mm), (1, .int k1), (2, .int k2), (3, .int k3), (4, .int k4), (5, .int k5)]) hx hb d_Ref_feed_80 hl (by decide) rfl (fun ls hl => ?_)
                refine lv_aload_n hx hb d_Ref_feed_82 rfl (lv_at hl 2 rfl) ?_
                refine g_get hx hb hk hown hK hP 0 rfl f_Ref_7 rfl d_Ref_feed_83 ?_
                refine lv_aload_n hx hb d_Ref_feed_86 rfl (lv_at hl 2 rfl) ?_
                refine g_get hx hb hk hown hK hP 0 rfl f_Ref_81 rfl d_Ref_feed_87 ?_
                refine lv_iload hx hb d_Ref_feed_90 (lv_at hl 0 rfl) ?_
                refine lv_bipush (v := iI 24) hx hb d_Ref_feed_92 (by decide) ?_
                refine lv_bipush (v := iI 8) hx hb d_Ref_feed_94 (by decide) ?_
                refine lv_iload hx hb d_Ref_feed_96 (lv_at hl 1 rfl) ?_
                refine lv_iconst (v := iI 4) hx hb d_Ref_feed_98 rfl ?_
                refine ri_irem hx hb d_Ref_feed_99 ?_
                refine ri_imul hx hb d_Ref_feed_100 ?_
                refine ri_isub hx hb d_Ref_feed_101 ?_
                refine lv_ishr hx hb d_Ref_feed_102 ?_
                refine lv_i2b (v := bs k4 (24 - (8 * (((a : Int)) % 4)))) hx hb d_Ref_feed_103 rfl ?_
                refine g_bast (i := nn + a) hx hb hK hP hD hS 1 0 rfl hty d_Ref_feed_104 (fun H locs hP hD hS => ?_) (pk_vb _) (by omega) (by decide)
                have hP : va_P D vwCl [(mm, .inr (4, [.int (iI 0), .ref tA, .int (iI (((nn + a : Nat) : Int))), .int (iI pl), .int (iI yr), .int (iI mn), .int (iI dy), .int (iI ((i : Int))), .ref oA, .ref sA, .ref eA, .ref gA, .ref cA, .ref rA, .ref fA])), (tA, .inl (cB, 400, .inl (upd (apn f nn k1 k2 k3 k4 k5 a) (nn + a) (bs k4 (24 - (8 * (((a : Int)) % 4)))))))] H := hP
                have hD : va_D (wA [(mm, .inr (4, [.int (iI fa), .ref tA, .int (iI ((nn : Int))), .int (iI pl), .int (iI yr), .int (iI mn), .int (iI dy), .int (iI ((i : Int))), .ref oA, .ref sA, .ref eA, .ref gA, .ref cA, .ref rA, .ref fA])), (tA, .inl (cB, 400, .inl f))]) [(mm, .inr (4, [.int (iI 0), .ref tA, .int (iI (((nn + a : Nat) : Int))), .int (iI pl), .int (iI yr), .int (iI mn), .int (iI dy), .int (iI ((i : Int))), .ref oA, .ref sA, .ref eA, .ref gA, .ref cA, .ref rA, .ref fA])), (tA, .inl (cB, 400, .inl (upd (apn f nn k1 k2 k3 k4 k5 a) (nn + a) (bs k4 (24 - (8 * (((a : Int)) % 4)))))))] := hD
                have eU := apn_s (f := f) (n := nn) (k := a) (a := k1) (b := k2) (c := k3) (d := k4) (e := k5) (w := k4) (by simp only [wsel]; (repeat' split) <;> first | rfl | omega)
                rw [eU] at hP hD
                refine lv_aload_n hx hb d_Ref_feed_105 rfl (lv_at hl 2 rfl) ?_
                refine lv_dup hx hb d_Ref_feed_106 rfl ?_
                refine g_get hx hb hk hown hK hP 0 rfl f_Ref_81 rfl d_Ref_feed_107 ?_
                refine lv_iconst (v := iI 1) hx hb d_Ref_feed_110 rfl ?_
                refine ri_iadd hx hb d_Ref_feed_111 ?_
                refine ri_i (show (((nn + a : Nat) : Int)) + 1 = ((nn + (a + 1) : Nat) : Int) from by omega) ?_
                refine g_put hx hb hk hown hK hP hD hS 0 rfl f_Ref_81 fT_Ref rfl (rfl) rfl (Nat.le_of_ble_eq_true rfl) d_Ref_feed_112 (fun H locs hP hD hS => ?_)
                have hP : va_P D vwCl [(mm, .inr (4, [.int (iI 0), .ref tA, .int (iI (((nn + (a + 1) : Nat) : Int))), .int (iI pl), .int (iI yr), .int (iI mn), .int (iI dy), .int (iI ((i : Int))), .ref oA, .ref sA, .ref eA, .ref gA, .ref cA, .ref rA, .ref fA])), (tA, .inl (cB, 400, .inl (apn f nn k1 k2 k3 k4 k5 (a + 1))))] H := hP
                have hD : va_D (wA [(mm, .inr (4, [.int (iI fa), .ref tA, .int (iI ((nn : Int))), .int (iI pl), .int (iI yr), .int (iI mn), .int (iI dy), .int (iI ((i : Int))), .ref oA, .ref sA, .ref eA, .ref gA, .ref cA, .ref rA, .ref fA])), (tA, .inl (cB, 400, .inl f))]) [(mm, .inr (4, [.int (iI 0), .ref tA, .int (iI (((nn + (a + 1) : Nat) : Int))), .int (iI pl), .int (iI yr), .int (iI mn), .int (iI dy), .int (iI ((i : Int))), .ref oA, .ref sA, .ref eA, .ref gA, .ref cA, .ref rA, .ref fA])), (tA, .inl (cB, 400, .inl (apn f nn k1 k2 k3 k4 k5 (a + 1))))] := hD
                refine lv_iinc (k := 1) (v := iI ((a : Int) + 1)) (lv' := [(6, .int (iI ((a : Int) + 1))), (7, .int k4), (0, .ref mm), (1, .int k1), (2, .int k2), (3, .int k3), (4, .int k4), (5, .int k5)]) hx hb d_Ref_feed_115 hl rfl (iI_add _ _) (by decide) rfl (fun ls hl => ?_)
                refine lv_goto (tgt := 27) hx hb d_Ref_feed_118 (by decide) ?_
                have hl : lv_has ls 8 [(6, .int (iI (((a + 1 : Nat) : Int)))), (7, .int k4), (0, .ref mm), (1, .int k1), (2, .int k2), (3, .int k3), (4, .int k4), (5, .int k5)] := hl
                exact ih _ (by omega) (a + 1) ls _ _ (by omega) rfl hP hD hS (lv_sub hl [0, 2, 3, 4, 5, 6, 7] rfl)
            · refine lv_iload_n hx hb d_Ref_feed_62 rfl (lv_at hl 4 rfl) ?_
              refine lv_goto (tgt := 80) hx hb d_Ref_feed_63 (by decide) ?_
              refine lv_istore (lv' := [(7, .int k3), (6, .int (iI ((a : Int)))), (0, .ref mm), (1, .int k1), (2, .int k2), (3, .int k3), (4, .int k4), (5, .int k5)]) hx hb d_Ref_feed_80 hl (by decide) rfl (fun ls hl => ?_)
              refine lv_aload_n hx hb d_Ref_feed_82 rfl (lv_at hl 2 rfl) ?_
              refine g_get hx hb hk hown hK hP 0 rfl f_Ref_7 rfl d_Ref_feed_83 ?_
              refine lv_aload_n hx hb d_Ref_feed_86 rfl (lv_at hl 2 rfl) ?_
              refine g_get hx hb hk hown hK hP 0 rfl f_Ref_81 rfl d_Ref_feed_87 ?_
              refine lv_iload hx hb d_Ref_feed_90 (lv_at hl 0 rfl) ?_
              refine lv_bipush (v := iI 24) hx hb d_Ref_feed_92 (by decide) ?_
              refine lv_bipush (v := iI 8) hx hb d_Ref_feed_94 (by decide) ?_
              refine lv_iload hx hb d_Ref_feed_96 (lv_at hl 1 rfl) ?_
              refine lv_iconst (v := iI 4) hx hb d_Ref_feed_98 rfl ?_
              refine ri_irem hx hb d_Ref_feed_99 ?_
              refine ri_imul hx hb d_Ref_feed_100 ?_
              refine ri_isub hx hb d_Ref_feed_101 ?_
              refine lv_ishr hx hb d_Ref_feed_102 ?_
              refine lv_i2b (v := bs k3 (24 - (8 * (((a : Int)) % 4)))) hx hb d_Ref_feed_103 rfl ?_
              refine g_bast (i := nn + a) hx hb hK hP hD hS 1 0 rfl hty d_Ref_feed_104 (fun H locs hP hD hS => ?_) (pk_vb _) (by omega) (by decide)
              have hP : va_P D vwCl [(mm, .inr (4, [.int (iI 0), .ref tA, .int (iI (((nn + a : Nat) : Int))), .int (iI pl), .int (iI yr), .int (iI mn), .int (iI dy), .int (iI ((i : Int))), .ref oA, .ref sA, .ref eA, .ref gA, .ref cA, .ref rA, .ref fA])), (tA, .inl (cB, 400, .inl (upd (apn f nn k1 k2 k3 k4 k5 a) (nn + a) (bs k3 (24 - (8 * (((a : Int)) % 4)))))))] H := hP
              have hD : va_D (wA [(mm, .inr (4, [.int (iI fa), .ref tA, .int (iI ((nn : Int))), .int (iI pl), .int (iI yr), .int (iI mn), .int (iI dy), .int (iI ((i : Int))), .ref oA, .ref sA, .ref eA, .ref gA, .ref cA, .ref rA, .ref fA])), (tA, .inl (cB, 400, .inl f))]) [(mm, .inr (4, [.int (iI 0), .ref tA, .int (iI (((nn + a : Nat) : Int))), .int (iI pl), .int (iI yr), .int (iI mn), .int (iI dy), .int (iI ((i : Int))), .ref oA, .ref sA, .ref eA, .ref gA, .ref cA, .ref rA, .ref fA])), (tA, .inl (cB, 400, .inl (upd (apn f nn k1 k2 k3 k4 k5 a) (nn + a) (bs k3 (24 - (8 * (((a : Int)) % 4)))))))] := hD
              have eU := apn_s (f := f) (n := nn) (k := a) (a := k1) (b := k2) (c := k3) (d := k4) (e := k5) (w := k3) (by simp only [wsel]; (repeat' split) <;> first | rfl | omega)
              rw [eU] at hP hD
              refine lv_aload_n hx hb d_Ref_feed_105 rfl (lv_at hl 2 rfl) ?_
              refine lv_dup hx hb d_Ref_feed_106 rfl ?_
              refine g_get hx hb hk hown hK hP 0 rfl f_Ref_81 rfl d_Ref_feed_107 ?_
              refine lv_iconst (v := iI 1) hx hb d_Ref_feed_110 rfl ?_
              refine ri_iadd hx hb d_Ref_feed_111 ?_
              refine ri_i (show (((nn + a : Nat) : Int)) + 1 = ((nn + (a + 1) : Nat) : Int) from by omega) ?_
              refine g_put hx hb hk hown hK hP hD hS 0 rfl f_Ref_81 fT_Ref rfl (rfl) rfl (Nat.le_of_ble_eq_true rfl) d_Ref_feed_112 (fun H locs hP hD hS => ?_)
              have hP : va_P D vwCl [(mm, .inr (4, [.int (iI 0), .ref tA, .int (iI (((nn + (a + 1) : Nat) : Int))), .int (iI pl), .int (iI yr), .int (iI mn), .int (iI dy), .int (iI ((i : Int))), .ref oA, .ref sA, .ref eA, .ref gA, .ref cA, .ref rA, .ref fA])), (tA, .inl (cB, 400, .inl (apn f nn k1 k2 k3 k4 k5 (a + 1))))] H := hP
              have hD : va_D (wA [(mm, .inr (4, [.int (iI fa), .ref tA, .int (iI ((nn : Int))), .int (iI pl), .int (iI yr), .int (iI mn), .int (iI dy), .int (iI ((i : Int))), .ref oA, .ref sA, .ref eA, .ref gA, .ref cA, .ref rA, .ref fA])), (tA, .inl (cB, 400, .inl f))]) [(mm, .inr (4, [.int (iI 0), .ref tA, .int (iI (((nn + (a + 1) : Nat) : Int))), .int (iI pl), .int (iI yr), .int (iI mn), .int (iI dy), .int (iI ((i : Int))), .ref oA, .ref sA, .ref eA, .ref gA, .ref cA, .ref rA, .ref fA])), (tA, .inl (cB, 400, .inl (apn f nn k1 k2 k3 k4 k5 (a + 1))))] := hD
              refine lv_iinc (k := 1) (v := iI ((a : Int) + 1)) (lv' := [(6, .int (iI ((a : Int) + 1))), (7, .int k3), (0, .ref mm), (1, .int k1), (2, .int k2), (3, .int k3), (4, .int k4), (5, .int k5)]) hx hb d_Ref_feed_115 hl rfl (iI_add _ _) (by decide) rfl (fun ls hl => ?_)
              refine lv_goto (tgt := 27) hx hb d_Ref_feed_118 (by decide) ?_
              have hl : lv_has ls 8 [(6, .int (iI (((a + 1 : Nat) : Int)))), (7, .int k3), (0, .ref mm), (1, .int k1), (2, .int k2), (3, .int k3), (4, .int k4), (5, .int k5)] := hl
              exact ih _ (by omega) (a + 1) ls _ _ (by omega) rfl hP hD hS (lv_sub hl [0, 2, 3, 4, 5, 6, 7] rfl)
          · refine lv_iload_n hx hb d_Ref_feed_51 rfl (lv_at hl 3 rfl) ?_
            refine lv_goto (tgt := 80) hx hb d_Ref_feed_52 (by decide) ?_
            refine lv_istore (lv' := [(7, .int k2), (6, .int (iI ((a : Int)))), (0, .ref mm), (1, .int k1), (2, .int k2), (3, .int k3), (4, .int k4), (5, .int k5)]) hx hb d_Ref_feed_80 hl (by decide) rfl (fun ls hl => ?_)
            refine lv_aload_n hx hb d_Ref_feed_82 rfl (lv_at hl 2 rfl) ?_
            refine g_get hx hb hk hown hK hP 0 rfl f_Ref_7 rfl d_Ref_feed_83 ?_
            refine lv_aload_n hx hb d_Ref_feed_86 rfl (lv_at hl 2 rfl) ?_
            refine g_get hx hb hk hown hK hP 0 rfl f_Ref_81 rfl d_Ref_feed_87 ?_
            refine lv_iload hx hb d_Ref_feed_90 (lv_at hl 0 rfl) ?_
            refine lv_bipush (v := iI 24) hx hb d_Ref_feed_92 (by decide) ?_
            refine lv_bipush (v := iI 8) hx hb d_Ref_feed_94 (by decide) ?_
            refine lv_iload hx hb d_Ref_feed_96 (lv_at hl 1 rfl) ?_
            refine lv_iconst (v := iI 4) hx hb d_Ref_feed_98 rfl ?_
            refine ri_irem hx hb d_Ref_feed_99 ?_
            refine ri_imul hx hb d_Ref_feed_100 ?_
            refine ri_isub hx hb d_Ref_feed_101 ?_
            refine lv_ishr hx hb d_Ref_feed_102 ?_
            refine lv_i2b (v := bs k2 (24 - (8 * (((a : Int)) % 4)))) hx hb d_Ref_feed_103 rfl ?_
            refine g_bast (i := nn + a) hx hb hK hP hD hS 1 0 rfl hty d_Ref_feed_104 (fun H locs hP hD hS => ?_) (pk_vb _) (by omega) (by decide)
            have hP : va_P D vwCl [(mm, .inr (4, [.int (iI 0), .ref tA, .int (iI (((nn + a : Nat) : Int))), .int (iI pl), .int (iI yr), .int (iI mn), .int (iI dy), .int (iI ((i : Int))), .ref oA, .ref sA, .ref eA, .ref gA, .ref cA, .ref rA, .ref fA])), (tA, .inl (cB, 400, .inl (upd (apn f nn k1 k2 k3 k4 k5 a) (nn + a) (bs k2 (24 - (8 * (((a : Int)) % 4)))))))] H := hP
            have hD : va_D (wA [(mm, .inr (4, [.int (iI fa), .ref tA, .int (iI ((nn : Int))), .int (iI pl), .int (iI yr), .int (iI mn), .int (iI dy), .int (iI ((i : Int))), .ref oA, .ref sA, .ref eA, .ref gA, .ref cA, .ref rA, .ref fA])), (tA, .inl (cB, 400, .inl f))]) [(mm, .inr (4, [.int (iI 0), .ref tA, .int (iI (((nn + a : Nat) : Int))), .int (iI pl), .int (iI yr), .int (iI mn), .int (iI dy), .int (iI ((i : Int))), .ref oA, .ref sA, .ref eA, .ref gA, .ref cA, .ref rA, .ref fA])), (tA, .inl (cB, 400, .inl (upd (apn f nn k1 k2 k3 k4 k5 a) (nn + a) (bs k2 (24 - (8 * (((a : Int)) % 4)))))))] := hD
            have eU := apn_s (f := f) (n := nn) (k := a) (a := k1) (b := k2) (c := k3) (d := k4) (e := k5) (w := k2) (by simp only [wsel]; (repeat' split) <;> first | rfl | omega)
            rw [eU] at hP hD
            refine lv_aload_n hx hb d_Ref_feed_105 rfl (lv_at hl 2 rfl) ?_
            refine lv_dup hx hb d_Ref_feed_106 rfl ?_
            refine g_get hx hb hk hown hK hP 0 rfl f_Ref_81 rfl d_Ref_feed_107 ?_
            refine lv_iconst (v := iI 1) hx hb d_Ref_feed_110 rfl ?_
            refine ri_iadd hx hb d_Ref_feed_111 ?_
            refine ri_i (show (((nn + a : Nat) : Int)) + 1 = ((nn + (a + 1) : Nat) : Int) from by omega) ?_
            refine g_put hx hb hk hown hK hP hD hS 0 rfl f_Ref_81 fT_Ref rfl (rfl) rfl (Nat.le_of_ble_eq_true rfl) d_Ref_feed_112 (fun H locs hP hD hS => ?_)
            have hP : va_P D vwCl [(mm, .inr (4, [.int (iI 0), .ref tA, .int (iI (((nn + (a + 1) : Nat) : Int))), .int (iI pl), .int (iI yr), .int (iI mn), .int (iI dy), .int (iI ((i : Int))), .ref oA, .ref sA, .ref eA, .ref gA, .ref cA, .ref rA, .ref fA])), (tA, .inl (cB, 400, .inl (apn f nn k1 k2 k3 k4 k5 (a + 1))))] H := hP
            have hD : va_D (wA [(mm, .inr (4, [.int (iI fa), .ref tA, .int (iI ((nn : Int))), .int (iI pl), .int (iI yr), .int (iI mn), .int (iI dy), .int (iI ((i : Int))), .ref oA, .ref sA, .ref eA, .ref gA, .ref cA, .ref rA, .ref fA])), (tA, .inl (cB, 400, .inl f))]) [(mm, .inr (4, [.int (iI 0), .ref tA, .int (iI (((nn + (a + 1) : Nat) : Int))), .int (iI pl), .int (iI yr), .int (iI mn), .int (iI dy), .int (iI ((i : Int))), .ref oA, .ref sA, .ref eA, .ref gA, .ref cA, .ref rA, .ref fA])), (tA, .inl (cB, 400, .inl (apn f nn k1 k2 k3 k4 k5 (a + 1))))] := hD
            refine lv_iinc (k := 1) (v := iI ((a : Int) + 1)) (lv' := [(6, .int (iI ((a : Int) + 1))), (7, .int k2), (0, .ref mm), (1, .int k1), (2, .int k2), (3, .int k3), (4, .int k4), (5, .int k5)]) hx hb d_Ref_feed_115 hl rfl (iI_add _ _) (by decide) rfl (fun ls hl => ?_)
            refine lv_goto (tgt := 27) hx hb d_Ref_feed_118 (by decide) ?_
            have hl : lv_has ls 8 [(6, .int (iI (((a + 1 : Nat) : Int)))), (7, .int k2), (0, .ref mm), (1, .int k1), (2, .int k2), (3, .int k3), (4, .int k4), (5, .int k5)] := hl
            exact ih _ (by omega) (a + 1) ls _ _ (by omega) rfl hP hD hS (lv_sub hl [0, 2, 3, 4, 5, 6, 7] rfl)
        · refine lv_iload_n hx hb d_Ref_feed_40 rfl (lv_at hl 2 rfl) ?_
          refine lv_goto (tgt := 80) hx hb d_Ref_feed_41 (by decide) ?_
          refine lv_istore (lv' := [(7, .int k1), (6, .int (iI ((a : Int)))), (0, .ref mm), (1, .int k1), (2, .int k2), (3, .int k3), (4, .int k4), (5, .int k5)]) hx hb d_Ref_feed_80 hl (by decide) rfl (fun ls hl => ?_)
          refine lv_aload_n hx hb d_Ref_feed_82 rfl (lv_at hl 2 rfl) ?_
          refine g_get hx hb hk hown hK hP 0 rfl f_Ref_7 rfl d_Ref_feed_83 ?_
          refine lv_aload_n hx hb d_Ref_feed_86 rfl (lv_at hl 2 rfl) ?_
          refine g_get hx hb hk hown hK hP 0 rfl f_Ref_81 rfl d_Ref_feed_87 ?_
          refine lv_iload hx hb d_Ref_feed_90 (lv_at hl 0 rfl) ?_
          refine lv_bipush (v := iI 24) hx hb d_Ref_feed_92 (by decide) ?_
          refine lv_bipush (v := iI 8) hx hb d_Ref_feed_94 (by decide) ?_
          refine lv_iload hx hb d_Ref_feed_96 (lv_at hl 1 rfl) ?_
          refine lv_iconst (v := iI 4) hx hb d_Ref_feed_98 rfl ?_
          refine ri_irem hx hb d_Ref_feed_99 ?_
          refine ri_imul hx hb d_Ref_feed_100 ?_
          refine ri_isub hx hb d_Ref_feed_101 ?_
          refine lv_ishr hx hb d_Ref_feed_102 ?_
          refine lv_i2b (v := bs k1 (24 - (8 * (((a : Int)) % 4)))) hx hb d_Ref_feed_103 rfl ?_
          refine g_bast (i := nn + a) hx hb hK hP hD hS 1 0 rfl hty d_Ref_feed_104 (fun H locs hP hD hS => ?_) (pk_vb _) (by omega) (by decide)
          have hP : va_P D vwCl [(mm, .inr (4, [.int (iI 0), .ref tA, .int (iI (((nn + a : Nat) : Int))), .int (iI pl), .int (iI yr), .int (iI mn), .int (iI dy), .int (iI ((i : Int))), .ref oA, .ref sA, .ref eA, .ref gA, .ref cA, .ref rA, .ref fA])), (tA, .inl (cB, 400, .inl (upd (apn f nn k1 k2 k3 k4 k5 a) (nn + a) (bs k1 (24 - (8 * (((a : Int)) % 4)))))))] H := hP
          have hD : va_D (wA [(mm, .inr (4, [.int (iI fa), .ref tA, .int (iI ((nn : Int))), .int (iI pl), .int (iI yr), .int (iI mn), .int (iI dy), .int (iI ((i : Int))), .ref oA, .ref sA, .ref eA, .ref gA, .ref cA, .ref rA, .ref fA])), (tA, .inl (cB, 400, .inl f))]) [(mm, .inr (4, [.int (iI 0), .ref tA, .int (iI (((nn + a : Nat) : Int))), .int (iI pl), .int (iI yr), .int (iI mn), .int (iI dy), .int (iI ((i : Int))), .ref oA, .ref sA, .ref eA, .ref gA, .ref cA, .ref rA, .ref fA])), (tA, .inl (cB, 400, .inl (upd (apn f nn k1 k2 k3 k4 k5 a) (nn + a) (bs k1 (24 - (8 * (((a : Int)) % 4)))))))] := hD
          have eU := apn_s (f := f) (n := nn) (k := a) (a := k1) (b := k2) (c := k3) (d := k4) (e := k5) (w := k1) (by simp only [wsel]; (repeat' split) <;> first | rfl | omega)
          rw [eU] at hP hD
          refine lv_aload_n hx hb d_Ref_feed_105 rfl (lv_at hl 2 rfl) ?_
          refine lv_dup hx hb d_Ref_feed_106 rfl ?_
          refine g_get hx hb hk hown hK hP 0 rfl f_Ref_81 rfl d_Ref_feed_107 ?_
          refine lv_iconst (v := iI 1) hx hb d_Ref_feed_110 rfl ?_
          refine ri_iadd hx hb d_Ref_feed_111 ?_
          refine ri_i (show (((nn + a : Nat) : Int)) + 1 = ((nn + (a + 1) : Nat) : Int) from by omega) ?_
          refine g_put hx hb hk hown hK hP hD hS 0 rfl f_Ref_81 fT_Ref rfl (rfl) rfl (Nat.le_of_ble_eq_true rfl) d_Ref_feed_112 (fun H locs hP hD hS => ?_)
          have hP : va_P D vwCl [(mm, .inr (4, [.int (iI 0), .ref tA, .int (iI (((nn + (a + 1) : Nat) : Int))), .int (iI pl), .int (iI yr), .int (iI mn), .int (iI dy), .int (iI ((i : Int))), .ref oA, .ref sA, .ref eA, .ref gA, .ref cA, .ref rA, .ref fA])), (tA, .inl (cB, 400, .inl (apn f nn k1 k2 k3 k4 k5 (a + 1))))] H := hP
          have hD : va_D (wA [(mm, .inr (4, [.int (iI fa), .ref tA, .int (iI ((nn : Int))), .int (iI pl), .int (iI yr), .int (iI mn), .int (iI dy), .int (iI ((i : Int))), .ref oA, .ref sA, .ref eA, .ref gA, .ref cA, .ref rA, .ref fA])), (tA, .inl (cB, 400, .inl f))]) [(mm, .inr (4, [.int (iI 0), .ref tA, .int (iI (((nn + (a + 1) : Nat) : Int))), .int (iI pl), .int (iI yr), .int (iI mn), .int (iI dy), .int (iI ((i : Int))), .ref oA, .ref sA, .ref eA, .ref gA, .ref cA, .ref rA, .ref fA])), (tA, .inl (cB, 400, .inl (apn f nn k1 k2 k3 k4 k5 (a + 1))))] := hD
          refine lv_iinc (k := 1) (v := iI ((a : Int) + 1)) (lv' := [(6, .int (iI ((a : Int) + 1))), (7, .int k1), (0, .ref mm), (1, .int k1), (2, .int k2), (3, .int k3), (4, .int k4), (5, .int k5)]) hx hb d_Ref_feed_115 hl rfl (iI_add _ _) (by decide) rfl (fun ls hl => ?_)
          refine lv_goto (tgt := 27) hx hb d_Ref_feed_118 (by decide) ?_
          have hl : lv_has ls 8 [(6, .int (iI (((a + 1 : Nat) : Int)))), (7, .int k1), (0, .ref mm), (1, .int k1), (2, .int k2), (3, .int k3), (4, .int k4), (5, .int k5)] := hl
          exact ih _ (by omega) (a + 1) ls _ _ (by omega) rfl hP hD hS (lv_sub hl [0, 2, 3, 4, 5, 6, 7] rfl)
    exact loop27 _ 0 ls _ _ (by omega) rfl hP hD hS (lv_sub hl [0, 1, 2, 3, 4, 5, 6] rfl)
  · exfalso; omega
abbrev rm_Ref_feed_b : Room := { frames := 1, cells := 0, slots := 0, locals := 27 }
set_option maxHeartbeats 4000000 in
set_option maxRecDepth 100000 in
theorem ct_Ref_feed_b (l : Launch) (D : va_G) (tys : List (ClassId × FieldType)) (mm : Nat) (tA : Nat) (oA : Nat) (sA : Nat) (eA : Nat) (gA : Nat) (cA : Nat) (rA : Nat) (fA : Nat) (fa : Int) (nn : Nat) (pl : Int) (yr : Int) (mn : Int) (dy : Int) (i : Nat) (k1 : Int32) (k2 : Int32) (k3 : Int32) (k4 : Int32) (k5 : Int32) (gn : nn ≤ 400) (gq : 380 < nn) : mMet l y_Ref_feed c_Ref_feed 8 (some .int) rm_Ref_feed_b D tys [.ref mm, .int k1, .int k2, .int k3, .int k4, .int k5] [(mm, .inr (4, [.int (iI fa), .ref tA, .int (iI ((nn : Int))), .int (iI pl), .int (iI yr), .int (iI mn), .int (iI dy), .int (iI ((i : Int))), .ref oA, .ref sA, .ref eA, .ref gA, .ref cA, .ref rA, .ref fA]))] (some (.int (iI 0))) [(mm, .inr (4, [.int (iI 1), .ref tA, .int (iI ((nn : Int))), .int (iI pl), .int (iI yr), .int (iI mn), .int (iI dy), .int (iI ((i : Int))), .ref oA, .ref sA, .ref eA, .ref gA, .ref cA, .ref rA, .ref fA]))] := by
  refine mMet_of (by decide) (Nat.le_of_ble_eq_true rfl) ?_
  intro p e s m below meth c hx hb hr hown hlk hml hk hK hP hD hS ls hl
  have hl : lv_has ls 8 [(0, .ref mm), (1, .int k1), (2, .int k2), (3, .int k3), (4, .int k4), (5, .int k5)] := hl
  refine lv_aload_n hx hb d_Ref_feed_0 rfl (lv_at hl 0 rfl) ?_
  refine lv_iconst (v := iI 0) hx hb d_Ref_feed_1 rfl ?_
  refine g_put hx hb hk hown hK hP hD hS 0 rfl f_Ref_44 fT_Ref rfl (rfl) rfl (Nat.le_of_ble_eq_true rfl) d_Ref_feed_2 (fun H locs hP hD hS => ?_)
  have hP : va_P D vwCl [(mm, .inr (4, [.int (iI 0), .ref tA, .int (iI ((nn : Int))), .int (iI pl), .int (iI yr), .int (iI mn), .int (iI dy), .int (iI ((i : Int))), .ref oA, .ref sA, .ref eA, .ref gA, .ref cA, .ref rA, .ref fA]))] H := hP
  have hD : va_D (wA [(mm, .inr (4, [.int (iI fa), .ref tA, .int (iI ((nn : Int))), .int (iI pl), .int (iI yr), .int (iI mn), .int (iI dy), .int (iI ((i : Int))), .ref oA, .ref sA, .ref eA, .ref gA, .ref cA, .ref rA, .ref fA]))]) [(mm, .inr (4, [.int (iI 0), .ref tA, .int (iI ((nn : Int))), .int (iI pl), .int (iI yr), .int (iI mn), .int (iI dy), .int (iI ((i : Int))), .ref oA, .ref sA, .ref eA, .ref gA, .ref cA, .ref rA, .ref fA]))] := hD
  refine lv_aload_n hx hb d_Ref_feed_5 rfl (lv_at hl 0 rfl) ?_
  refine g_get hx hb hk hown hK hP 0 rfl f_Ref_81 rfl d_Ref_feed_6 ?_
  refine lv_bipush (v := iI 20) hx hb d_Ref_feed_9 (by decide) ?_
  refine ri_iadd hx hb d_Ref_feed_11 ?_
  refine lv_sipush (v := iI 400) hx hb d_Ref_feed_12 (by decide) ?_
  refine ri_icmp_le (tgt := 24) hx hb d_Ref_feed_15 (by decide) (fun h15 => ?_) (fun h15 => ?_)
  · exfalso; omega
  · refine lv_aload_n hx hb d_Ref_feed_18 rfl (lv_at hl 0 rfl) ?_
    refine lv_iconst (v := iI 1) hx hb d_Ref_feed_19 rfl ?_
    refine m_callV (rest := []) (q0 := 0) hx hb (hml.trans hl.1.symm) hown hk hK k_Ref_141 (ct_Ref_fail l D tys mm tA oA sA eA gA cA rA fA 0 nn pl yr mn dy i 1 ) hP hD hS [0] rfl rfl rfl rfl rfl rfl rfl ⟨rfl, rfl⟩ ⟨by decide, by decide, by decide, by decide⟩ (Nat.le_of_ble_eq_true rfl) d_Ref_feed_20 (fun H locs hP hD hS => ?_)
    have hP : va_P D vwCl [(mm, .inr (4, [.int (iI 1), .ref tA, .int (iI ((nn : Int))), .int (iI pl), .int (iI yr), .int (iI mn), .int (iI dy), .int (iI ((i : Int))), .ref oA, .ref sA, .ref eA, .ref gA, .ref cA, .ref rA, .ref fA]))] H := hP
    have hD : va_D (wA [(mm, .inr (4, [.int (iI fa), .ref tA, .int (iI ((nn : Int))), .int (iI pl), .int (iI yr), .int (iI mn), .int (iI dy), .int (iI ((i : Int))), .ref oA, .ref sA, .ref eA, .ref gA, .ref cA, .ref rA, .ref fA]))]) [(mm, .inr (4, [.int (iI 1), .ref tA, .int (iI ((nn : Int))), .int (iI pl), .int (iI yr), .int (iI mn), .int (iI dy), .int (iI ((i : Int))), .ref oA, .ref sA, .ref eA, .ref gA, .ref cA, .ref rA, .ref fA]))] := hD
    exact m_iret hx hb hr hlk hP hS d_Ref_feed_23 (by rfl) (by rfl)
abbrev rm_Ref_end : Room := { frames := 1, cells := 0, slots := 0, locals := 21 }
set_option maxHeartbeats 4000000 in
set_option maxRecDepth 100000 in
theorem ct_Ref_end (l : Launch) (D : va_G) (tys : List (ClassId × FieldType)) (mm : Nat) (tA : Nat) (oA : Nat) (sA : Nat) (eA : Nat) (gA : Nat) (cA : Nat) (rA : Nat) (fA : Nat) (fa : Int) (nn : Nat) (pl : Int) (yr : Int) (mn : Int) (dy : Int) (i : Nat) (en : Int) (gn : nn ≤ 400) (gq1 : 0 ≤ en) (gq2 : en ≤ nn) : mMet l y_Ref_end c_Ref_end 2 (some .int) rm_Ref_end D tys [.ref mm, .int (iI en)] [(mm, .inr (4, [.int (iI fa), .ref tA, .int (iI ((nn : Int))), .int (iI pl), .int (iI yr), .int (iI mn), .int (iI dy), .int (iI ((i : Int))), .ref oA, .ref sA, .ref eA, .ref gA, .ref cA, .ref rA, .ref fA]))] (some (.int (iI en))) [(mm, .inr (4, [.int (iI 0), .ref tA, .int (iI ((en.toNat : Int))), .int (iI pl), .int (iI yr), .int (iI mn), .int (iI dy), .int (iI ((i : Int))), .ref oA, .ref sA, .ref eA, .ref gA, .ref cA, .ref rA, .ref fA]))] := by
  refine mMet_of (by decide) (Nat.le_of_ble_eq_true rfl) ?_
  intro p e s m below meth c hx hb hr hown hlk hml hk hK hP hD hS ls hl
  have hl : lv_has ls 2 [(0, .ref mm), (1, .int (iI en))] := hl
  refine lv_aload_n hx hb d_Ref_end_0 rfl (lv_at hl 0 rfl) ?_
  refine lv_iconst (v := iI 0) hx hb d_Ref_end_1 rfl ?_
  refine g_put hx hb hk hown hK hP hD hS 0 rfl f_Ref_44 fT_Ref rfl (rfl) rfl (Nat.le_of_ble_eq_true rfl) d_Ref_end_2 (fun H locs hP hD hS => ?_)
  have hP : va_P D vwCl [(mm, .inr (4, [.int (iI 0), .ref tA, .int (iI ((nn : Int))), .int (iI pl), .int (iI yr), .int (iI mn), .int (iI dy), .int (iI ((i : Int))), .ref oA, .ref sA, .ref eA, .ref gA, .ref cA, .ref rA, .ref fA]))] H := hP
  have hD : va_D (wA [(mm, .inr (4, [.int (iI fa), .ref tA, .int (iI ((nn : Int))), .int (iI pl), .int (iI yr), .int (iI mn), .int (iI dy), .int (iI ((i : Int))), .ref oA, .ref sA, .ref eA, .ref gA, .ref cA, .ref rA, .ref fA]))]) [(mm, .inr (4, [.int (iI 0), .ref tA, .int (iI ((nn : Int))), .int (iI pl), .int (iI yr), .int (iI mn), .int (iI dy), .int (iI ((i : Int))), .ref oA, .ref sA, .ref eA, .ref gA, .ref cA, .ref rA, .ref fA]))] := hD
  refine lv_iload_n hx hb d_Ref_end_5 rfl (lv_at hl 1 rfl) ?_
  refine ri_if_lt (tgt := 17) hx hb d_Ref_end_6 (by decide) (fun h6 => ?_) (fun h6 => ?_)
  · exfalso; omega
  · refine lv_iload_n hx hb d_Ref_end_9 rfl (lv_at hl 1 rfl) ?_
    refine lv_aload_n hx hb d_Ref_end_10 rfl (lv_at hl 0 rfl) ?_
    refine g_get hx hb hk hown hK hP 0 rfl f_Ref_81 rfl d_Ref_end_11 ?_
    refine ri_icmp_le (tgt := 23) hx hb d_Ref_end_14 (by decide) (fun h14 => ?_) (fun h14 => ?_)
    · refine lv_aload_n hx hb d_Ref_end_23 rfl (lv_at hl 0 rfl) ?_
      refine lv_iload_n hx hb d_Ref_end_24 rfl (lv_at hl 1 rfl) ?_
      refine ri_i (show en = (en.toNat : Int) from by omega) ?_
      refine g_put hx hb hk hown hK hP hD hS 0 rfl f_Ref_81 fT_Ref rfl (rfl) rfl (Nat.le_of_ble_eq_true rfl) d_Ref_end_25 (fun H locs hP hD hS => ?_)
      have hP : va_P D vwCl [(mm, .inr (4, [.int (iI 0), .ref tA, .int (iI ((en.toNat : Int))), .int (iI pl), .int (iI yr), .int (iI mn), .int (iI dy), .int (iI ((i : Int))), .ref oA, .ref sA, .ref eA, .ref gA, .ref cA, .ref rA, .ref fA]))] H := hP
      have hD : va_D (wA [(mm, .inr (4, [.int (iI fa), .ref tA, .int (iI ((nn : Int))), .int (iI pl), .int (iI yr), .int (iI mn), .int (iI dy), .int (iI ((i : Int))), .ref oA, .ref sA, .ref eA, .ref gA, .ref cA, .ref rA, .ref fA]))]) [(mm, .inr (4, [.int (iI 0), .ref tA, .int (iI ((en.toNat : Int))), .int (iI pl), .int (iI yr), .int (iI mn), .int (iI dy), .int (iI ((i : Int))), .ref oA, .ref sA, .ref eA, .ref gA, .ref cA, .ref rA, .ref fA]))] := hD
      refine lv_iload_n hx hb d_Ref_end_28 rfl (lv_at hl 1 rfl) ?_
      exact m_iret hx hb hr hlk hP hS d_Ref_end_29 (by rfl) (by rfl)
    · exfalso; omega
abbrev rm_Ref_end_b : Room := { frames := 1, cells := 0, slots := 0, locals := 21 }
set_option maxHeartbeats 4000000 in
set_option maxRecDepth 100000 in
theorem ct_Ref_end_b (l : Launch) (D : va_G) (tys : List (ClassId × FieldType)) (mm : Nat) (tA : Nat) (oA : Nat) (sA : Nat) (eA : Nat) (gA : Nat) (cA : Nat) (rA : Nat) (fA : Nat) (fa : Int) (nn : Nat) (pl : Int) (yr : Int) (mn : Int) (dy : Int) (i : Nat) (en : Int) (gn : nn ≤ 400) (gq1 : -2147483648 ≤ en) (gq2 : en ≤ 2147483647) (gq : en < 0 ∨ nn < en) : mMet l y_Ref_end c_Ref_end 2 (some .int) rm_Ref_end_b D tys [.ref mm, .int (iI en)] [(mm, .inr (4, [.int (iI fa), .ref tA, .int (iI ((nn : Int))), .int (iI pl), .int (iI yr), .int (iI mn), .int (iI dy), .int (iI ((i : Int))), .ref oA, .ref sA, .ref eA, .ref gA, .ref cA, .ref rA, .ref fA]))] (some (.int (iI 0))) [(mm, .inr (4, [.int (iI 1), .ref tA, .int (iI ((nn : Int))), .int (iI pl), .int (iI yr), .int (iI mn), .int (iI dy), .int (iI ((i : Int))), .ref oA, .ref sA, .ref eA, .ref gA, .ref cA, .ref rA, .ref fA]))] := by
  refine mMet_of (by decide) (Nat.le_of_ble_eq_true rfl) ?_
  intro p e s m below meth c hx hb hr hown hlk hml hk hK hP hD hS ls hl
  have hl : lv_has ls 2 [(0, .ref mm), (1, .int (iI en))] := hl
  refine lv_aload_n hx hb d_Ref_end_0 rfl (lv_at hl 0 rfl) ?_
  refine lv_iconst (v := iI 0) hx hb d_Ref_end_1 rfl ?_
  refine g_put hx hb hk hown hK hP hD hS 0 rfl f_Ref_44 fT_Ref rfl (rfl) rfl (Nat.le_of_ble_eq_true rfl) d_Ref_end_2 (fun H locs hP hD hS => ?_)
  have hP : va_P D vwCl [(mm, .inr (4, [.int (iI 0), .ref tA, .int (iI ((nn : Int))), .int (iI pl), .int (iI yr), .int (iI mn), .int (iI dy), .int (iI ((i : Int))), .ref oA, .ref sA, .ref eA, .ref gA, .ref cA, .ref rA, .ref fA]))] H := hP
  have hD : va_D (wA [(mm, .inr (4, [.int (iI fa), .ref tA, .int (iI ((nn : Int))), .int (iI pl), .int (iI yr), .int (iI mn), .int (iI dy), .int (iI ((i : Int))), .ref oA, .ref sA, .ref eA, .ref gA, .ref cA, .ref rA, .ref fA]))]) [(mm, .inr (4, [.int (iI 0), .ref tA, .int (iI ((nn : Int))), .int (iI pl), .int (iI yr), .int (iI mn), .int (iI dy), .int (iI ((i : Int))), .ref oA, .ref sA, .ref eA, .ref gA, .ref cA, .ref rA, .ref fA]))] := hD
  refine lv_iload_n hx hb d_Ref_end_5 rfl (lv_at hl 1 rfl) ?_
  refine ri_if_lt (tgt := 17) hx hb d_Ref_end_6 (by decide) (fun h6 => ?_) (fun h6 => ?_)
  · refine lv_aload_n hx hb d_Ref_end_17 rfl (lv_at hl 0 rfl) ?_
    refine lv_iconst (v := iI 1) hx hb d_Ref_end_18 rfl ?_
    refine m_callV (rest := []) (q0 := 0) hx hb (hml.trans hl.1.symm) hown hk hK k_Ref_141 (ct_Ref_fail l D tys mm tA oA sA eA gA cA rA fA 0 nn pl yr mn dy i 1 ) hP hD hS [0] rfl rfl rfl rfl rfl rfl rfl ⟨rfl, rfl⟩ ⟨by decide, by decide, by decide, by decide⟩ (Nat.le_of_ble_eq_true rfl) d_Ref_end_19 (fun H locs hP hD hS => ?_)
    have hP : va_P D vwCl [(mm, .inr (4, [.int (iI 1), .ref tA, .int (iI ((nn : Int))), .int (iI pl), .int (iI yr), .int (iI mn), .int (iI dy), .int (iI ((i : Int))), .ref oA, .ref sA, .ref eA, .ref gA, .ref cA, .ref rA, .ref fA]))] H := hP
    have hD : va_D (wA [(mm, .inr (4, [.int (iI fa), .ref tA, .int (iI ((nn : Int))), .int (iI pl), .int (iI yr), .int (iI mn), .int (iI dy), .int (iI ((i : Int))), .ref oA, .ref sA, .ref eA, .ref gA, .ref cA, .ref rA, .ref fA]))]) [(mm, .inr (4, [.int (iI 1), .ref tA, .int (iI ((nn : Int))), .int (iI pl), .int (iI yr), .int (iI mn), .int (iI dy), .int (iI ((i : Int))), .ref oA, .ref sA, .ref eA, .ref gA, .ref cA, .ref rA, .ref fA]))] := hD
    exact m_iret hx hb hr hlk hP hS d_Ref_end_22 (by rfl) (by rfl)
  · refine lv_iload_n hx hb d_Ref_end_9 rfl (lv_at hl 1 rfl) ?_
    refine lv_aload_n hx hb d_Ref_end_10 rfl (lv_at hl 0 rfl) ?_
    refine g_get hx hb hk hown hK hP 0 rfl f_Ref_81 rfl d_Ref_end_11 ?_
    refine ri_icmp_le (tgt := 23) hx hb d_Ref_end_14 (by decide) (fun h14 => ?_) (fun h14 => ?_)
    · exfalso; omega
    · refine lv_aload_n hx hb d_Ref_end_17 rfl (lv_at hl 0 rfl) ?_
      refine lv_iconst (v := iI 1) hx hb d_Ref_end_18 rfl ?_
      refine m_callV (rest := []) (q0 := 0) hx hb (hml.trans hl.1.symm) hown hk hK k_Ref_141 (ct_Ref_fail l D tys mm tA oA sA eA gA cA rA fA 0 nn pl yr mn dy i 1 ) hP hD hS [0] rfl rfl rfl rfl rfl rfl rfl ⟨rfl, rfl⟩ ⟨by decide, by decide, by decide, by decide⟩ (Nat.le_of_ble_eq_true rfl) d_Ref_end_19 (fun H locs hP hD hS => ?_)
      have hP : va_P D vwCl [(mm, .inr (4, [.int (iI 1), .ref tA, .int (iI ((nn : Int))), .int (iI pl), .int (iI yr), .int (iI mn), .int (iI dy), .int (iI ((i : Int))), .ref oA, .ref sA, .ref eA, .ref gA, .ref cA, .ref rA, .ref fA]))] H := hP
      have hD : va_D (wA [(mm, .inr (4, [.int (iI fa), .ref tA, .int (iI ((nn : Int))), .int (iI pl), .int (iI yr), .int (iI mn), .int (iI dy), .int (iI ((i : Int))), .ref oA, .ref sA, .ref eA, .ref gA, .ref cA, .ref rA, .ref fA]))]) [(mm, .inr (4, [.int (iI 1), .ref tA, .int (iI ((nn : Int))), .int (iI pl), .int (iI yr), .int (iI mn), .int (iI dy), .int (iI ((i : Int))), .ref oA, .ref sA, .ref eA, .ref gA, .ref cA, .ref rA, .ref fA]))] := hD
      exact m_iret hx hb hr hlk hP hS d_Ref_end_22 (by rfl) (by rfl)
