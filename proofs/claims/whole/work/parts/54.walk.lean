/-! The law's loop, and the law from its start to its end. By program (wip/whole/m_walk.py). -/
theorem n9 {k : Nat} : k = 0 ∨ k = 1 ∨ k = 2 ∨ k = 3 ∨ k = 4 ∨ k = 5 ∨ k = 6 ∨ k = 7 ∨ k = 8 ∨ 9 ≤ k := by omega
set_option maxHeartbeats 4000000 in
set_option maxRecDepth 100000 in
theorem law_loop {p : Program} {l : Launch} {e : Env} {s : State} {m : MethodId} {below : List Frame} {meth : Method} {c : Code} {b L : Nat} {xs : Nat → Int32} {D : va_G} {tys : List (ClassId × FieldType)} {aS : Nat} {ad : Nat → Nat} {cl : Nat → ClassId} {aZ : Nat → Nat} {bZ : Nat → Nat} {eZ : Nat → Nat} {eR : Nat → Nat} {gR : Nat → Nat} {Q : State → Prop} (C0 : LC p l s m meth c b L xs D tys cl aS)
    (kend : ∀ (H : Heap) (locs : List Loc) (cells slots : Nat) (ls : Array Slot), cells ≤ 600000 → slots ≤ 7000000 → (∀ q ∈ locs, s.heap.size ≤ q.base) → W p l e room_1 s m #[.ref b] below meth c H locs cells slots Q (F0 m 872 ls [])) :
    ∀ (n i cells slots : Nat) (bp : Int) (nn : Nat) (i1 : Nat) (bk : Bool) (f : Nat → Int32) (doff : Int) (dsv : Int) (dm : RU) (dn : RU) (off : Nat → Int) (sv : Nat → Int) (B : Nat → RU) (E : Nat → RU) (fa : Int) (yr : Int) (mn : Int) (dy : Int) (i2 : Nat) (cN : Nat → Nat) (eF : Nat → Nat → Int) (gF : Nat → Nat → Bool) (rr : Nat → Int32) (fF : Nat → Int64) (oF : Nat → Int64) (H : Heap) (locs : List Loc) (ls : Array Slot), L - i = n → i ≤ 4000 → cells ≤ 100 + i → slots ≤ 20000 + 2 * i → LI bp nn off sv B E cN eF gF → va_P D vwCl (LW ad cl aZ bZ eZ eR gR bp nn i1 bk f doff dsv dm dn off sv B E fa yr mn dy i2 cN eF gF rr fF oF bp nn f off sv) H → va_D (fun q => s.heap.size ≤ q) (LW ad cl aZ bZ eZ eR gR bp nn i1 bk f doff dsv dm dn off sv B E fa yr mn dy i2 cN eF gF rr fF oF bp nn f off sv) → va_S (fun q => s.heap.size ≤ q) s.heap H locs → lv_has ls 8 [(4, .int (iI (i : Int))), (0, .ref b), (1, .ref (ad 0)), (2, .ref (ad 7)), (3, .ref (ad 16))] → W p l e room_1 s m #[.ref b] below meth c H locs cells slots Q (F0 m 23 ls []) := by
  intro n
  induction n using Nat.strongRecOn with
  | _ n ih =>
    intro i cells slots bp nn i1 bk f doff dsv dm dn off sv B E fa yr mn dy i2 cN eF gF rr fF oF H locs ls hn hi0 hcl0 hsl0 hLI hP hD hS hl
    have hcl : cells ≤ 600000 := by omega
    have hsl : slots ≤ 7000000 := by omega
    have C1 := C0
    obtain ⟨hx, hb, hr, hml, hown, hlk, hk, hK, hZ, hN, hXs, hbl, hL, hoff, hty, hI, hJ, hG, htz, hJJ, hGG⟩ := C1
    have hbA : ¬ s.heap.size ≤ b := by omega
    refine lv_iload hx hb d_Law_law_23 (lv_at hl 0 rfl) ?_
    refine lv_aload_n hx hb d_Law_law_25 rfl (lv_at hl 1 rfl) ?_
    refine va_slen hx hb hXs hbl hbA hS d_Law_law_26 ?_
    refine ri_v (y := .int (iI (L : Int))) (congrArg Value.int (iI_n L)) ?_
    refine lv_bipush (v := iI 6) hx hb d_Law_law_27 (by decide) ?_
    refine ri_isub hx hb d_Law_law_29 ?_
    refine ri_icmp_gt (tgt := 872) hx hb d_Law_law_30 (by decide) (fun h30 => ?_) (fun h30 => ?_)
    · exact kend H locs cells slots ls hcl hsl hS.2.2
    · have hi : i + 6 ≤ L := by omega
      refine lv_aload_n hx hb d_Law_law_33 rfl (lv_at hl 1 rfl) ?_
      refine lv_iload hx hb d_Law_law_34 (lv_at hl 0 rfl) ?_
      refine va_sld hx hb hXs hbl hbA hS (ix_in (i := i) (by omega) (by omega)) d_Law_law_36 ?_
      rw [ix_cl (i := i) (by omega)]
      refine lv_bipush (v := iI 15) hx hb d_Law_law_37 (by decide) ?_
      refine lv_iand hx hb d_Law_law_39 ?_
      obtain ⟨j, hj, ej⟩ := pk_andE (xs i) (m := iI 15) 4 (by decide)
      have kk : LK p l e s m below meth c b D ad cl aZ bZ eZ eR gR i (cells + 2) (slots + 12) Q := by
        intro bp' nn' i1' bk' f' doff' dsv' dm' dn' off' sv' B' E' fa' yr' mn' dy' i2' cN' eF' gF' rr' fF' oF' H locs ls hLI hP hD hS hl
        refine lv_iinc (k := 0) (v := iI ((i + 6 : Nat) : Int)) (lv' := [(4, .int (iI ((i + 6 : Nat) : Int))), (0, .ref b), (1, .ref (ad 0)), (2, .ref (ad 7)), (3, .ref (ad 16))]) hx hb d_Law_law_866 hl rfl ((iI_add _ _).trans (congrArg iI (by omega))) (by decide) rfl (fun ls hl => ?_)
        refine lv_goto (tgt := 23) hx hb d_Law_law_869 (by decide) ?_
        exact ih (L - (i + 6)) (by omega) (i + 6) (cells + 2) (slots + 12) bp' nn' i1' bk' f' doff' dsv' dm' dn' off' sv' B' E' fa' yr' mn' dy' i2' cN' eF' gF' rr' fF' oF' H locs ls rfl (by omega) (by omega) (by omega) hLI hP hD hS hl
      have hj : j < 16 := hj
      rcases n9 (k := j) with h | h | h | h | h | h | h | h | h | h
      · have ht : (xs i &&& iI 15).toInt = 0 := by rw [ej, nI_toInt (by omega)]; omega
        refine lv_tableIn (off := 52) (tgt := 92) hx hb d_Law_law_40 (by omega) (by omega) (by rw [ht]; first | rfl | decide) (by decide) ?_
        exact st_feed C0 hLI hi hcl hsl hP hD hS hl kk
      · have ht : (xs i &&& iI 15).toInt = 1 := by rw [ej, nI_toInt (by omega)]; omega
        refine lv_tableIn (off := 156) (tgt := 196) hx hb d_Law_law_40 (by omega) (by omega) (by rw [ht]; first | rfl | decide) (by decide) ?_
        exact st_end C0 hLI hi hcl hsl hP hD hS hl kk
      · have ht : (xs i &&& iI 15).toInt = 2 := by rw [ej, nI_toInt (by omega)]; omega
        refine lv_tableIn (off := 212) (tgt := 252) hx hb d_Law_law_40 (by omega) (by omega) (by rw [ht]; first | rfl | decide) (by decide) ?_
        exact st_zone C0 hLI hi hcl hsl hP hD hS hl kk
      · have ht : (xs i &&& iI 15).toInt = 3 := by rw [ej, nI_toInt (by omega)]; omega
        refine lv_tableIn (off := 248) (tgt := 288) hx hb d_Law_law_40 (by omega) (by omega) (by rw [ht]; first | rfl | decide) (by decide) ?_
        exact st_local C0 hLI hi hcl hsl hP hD hS hl kk
      · have ht : (xs i &&& iI 15).toInt = 4 := by rw [ej, nI_toInt (by omega)]; omega
        refine lv_tableIn (off := 347) (tgt := 387) hx hb d_Law_law_40 (by omega) (by omega) (by rw [ht]; first | rfl | decide) (by decide) ?_
        exact st_many C0 hLI hi hcl hsl hP hD hS hl kk
      · have ht : (xs i &&& iI 15).toInt = 5 := by rw [ej, nI_toInt (by omega)]; omega
        refine lv_tableIn (off := 447) (tgt := 487) hx hb d_Law_law_40 (by omega) (by omega) (by rw [ht]; first | rfl | decide) (by decide) ?_
        exact st_universal C0 hLI hi hcl hsl hP hD hS hl kk
      · have ht : (xs i &&& iI 15).toInt = 6 := by rw [ej, nI_toInt (by omega)]; omega
        refine lv_tableIn (off := 574) (tgt := 614) hx hb d_Law_law_40 (by omega) (by omega) (by rw [ht]; first | rfl | decide) (by decide) ?_
        exact st_change C0 hLI hi hcl hsl hP hD hS hl kk
      · have ht : (xs i &&& iI 15).toInt = 7 := by rw [ej, nI_toInt (by omega)]; omega
        refine lv_tableIn (off := 701) (tgt := 741) hx hb d_Law_law_40 (by omega) (by omega) (by rw [ht]; first | rfl | decide) (by decide) ?_
        exact st_field C0 hLI hi hcl hsl hP hD hS hl kk
      · have ht : (xs i &&& iI 15).toInt = 8 := by rw [ej, nI_toInt (by omega)]; omega
        refine lv_tableIn (off := 813) (tgt := 853) hx hb d_Law_law_40 (by omega) (by omega) (by rw [ht]; first | rfl | decide) (by decide) ?_
        exact st_place C0 hLI hi hcl hsl hP hD hS hl kk
      · refine lv_tableOut (tgt := 866) hx hb d_Law_law_40 (Or.inr (by rw [ej, nI_toInt (by omega)]; omega)) (by decide) ?_
        exact W.widen (k := cells + 2) (n := slots + 12) (by omega) (by omega) (kk bp nn i1 bk f doff dsv dm dn off sv B E fa yr mn dy i2 cN eF gF rr fF oF H locs ls hLI hP hD hS hl)
def sel17 (a0 : Nat) (a1 : Nat) (a2 : Nat) (a3 : Nat) (a4 : Nat) (a5 : Nat) (a6 : Nat) (a7 : Nat) (a8 : Nat) (a9 : Nat) (a10 : Nat) (a11 : Nat) (a12 : Nat) (a13 : Nat) (a14 : Nat) (a15 : Nat) (a16 : Nat) (k : Nat) : Nat := match k with
  | 0 => a0
  | 1 => a1
  | 2 => a2
  | 3 => a3
  | 4 => a4
  | 5 => a5
  | 6 => a6
  | 7 => a7
  | 8 => a8
  | 9 => a9
  | 10 => a10
  | 11 => a11
  | 12 => a12
  | 13 => a13
  | 14 => a14
  | 15 => a15
  | _ => a16
def CW (cB cZ : ClassId) (x t0 by0 d0 db0 de0 za0 : Nat) (aZ bZ eZ : Nat → Nat) : va_W := [(x, .inr (3, [.ref t0, .ref d0, .ref za0, .int (iI (-1))])), (t0, .inr (1, [.ref by0, .int (iI 0), .int (iI 0), .int (iI 0)])), (by0, .inl (cB, 400, .inl (fun _ => iI 0))), (d0, .inr (2, [.int (iI 0), .int (iI 0), .ref db0, .ref de0])), (db0, .inr (0, [.int (iI 0), .int (iI 0), .int (iI 0), .int (iI 0)])), (de0, .inr (0, [.int (iI 0), .int (iI 0), .int (iI 0), .int (iI 0)])), (za0, .inl (cZ, 8, .inr (.inr (.inr (.inr (fun k => some (aZ k))))))), (aZ 0, .inr (2, [.int (iI 0), .int (iI 0), .ref (bZ 0), .ref (eZ 0)])), (bZ 0, .inr (0, [.int (iI 0), .int (iI 0), .int (iI 0), .int (iI 0)])), (eZ 0, .inr (0, [.int (iI 0), .int (iI 0), .int (iI 0), .int (iI 0)])), (aZ 1, .inr (2, [.int (iI 0), .int (iI 0), .ref (bZ 1), .ref (eZ 1)])), (bZ 1, .inr (0, [.int (iI 0), .int (iI 0), .int (iI 0), .int (iI 0)])), (eZ 1, .inr (0, [.int (iI 0), .int (iI 0), .int (iI 0), .int (iI 0)])), (aZ 2, .inr (2, [.int (iI 0), .int (iI 0), .ref (bZ 2), .ref (eZ 2)])), (bZ 2, .inr (0, [.int (iI 0), .int (iI 0), .int (iI 0), .int (iI 0)])), (eZ 2, .inr (0, [.int (iI 0), .int (iI 0), .int (iI 0), .int (iI 0)])), (aZ 3, .inr (2, [.int (iI 0), .int (iI 0), .ref (bZ 3), .ref (eZ 3)])), (bZ 3, .inr (0, [.int (iI 0), .int (iI 0), .int (iI 0), .int (iI 0)])), (eZ 3, .inr (0, [.int (iI 0), .int (iI 0), .int (iI 0), .int (iI 0)])), (aZ 4, .inr (2, [.int (iI 0), .int (iI 0), .ref (bZ 4), .ref (eZ 4)])), (bZ 4, .inr (0, [.int (iI 0), .int (iI 0), .int (iI 0), .int (iI 0)])), (eZ 4, .inr (0, [.int (iI 0), .int (iI 0), .int (iI 0), .int (iI 0)])), (aZ 5, .inr (2, [.int (iI 0), .int (iI 0), .ref (bZ 5), .ref (eZ 5)])), (bZ 5, .inr (0, [.int (iI 0), .int (iI 0), .int (iI 0), .int (iI 0)])), (eZ 5, .inr (0, [.int (iI 0), .int (iI 0), .int (iI 0), .int (iI 0)])), (aZ 6, .inr (2, [.int (iI 0), .int (iI 0), .ref (bZ 6), .ref (eZ 6)])), (bZ 6, .inr (0, [.int (iI 0), .int (iI 0), .int (iI 0), .int (iI 0)])), (eZ 6, .inr (0, [.int (iI 0), .int (iI 0), .int (iI 0), .int (iI 0)])), (aZ 7, .inr (2, [.int (iI 0), .int (iI 0), .ref (bZ 7), .ref (eZ 7)])), (bZ 7, .inr (0, [.int (iI 0), .int (iI 0), .int (iI 0), .int (iI 0)])), (eZ 7, .inr (0, [.int (iI 0), .int (iI 0), .int (iI 0), .int (iI 0)]))]
set_option maxHeartbeats 4000000 in
set_option maxRecDepth 100000 in
theorem law_go {p : Program} {l : Launch} {e : Env} {s : State} {m : MethodId} {below : List Frame} {meth : Method} {c : Code} {b L : Nat} {xs : Nat → Int32} {D : va_G} {cl : Nat → ClassId} {aS : Nat} {ls : Array Slot} {Q : State → Prop} (C0 : LC p l s m meth c b L xs D (tysL cl) cl aS) (hXn : nX s) (hl : lv_has ls 8 [(0, .ref b)])
    (kend : ∀ (H : Heap) (locs : List Loc) (cells slots : Nat) (ls : Array Slot), cells ≤ 600000 → slots ≤ 7000000 → (∀ q ∈ locs, s.heap.size ≤ q.base) → W p l e room_1 s m #[.ref b] below meth c H locs cells slots Q (F0 m 872 ls [])) : W p l e room_1 s m #[.ref b] below meth c s.heap [] 0 0 Q (F0 m 0 ls []) := by
  have C1 := C0
  obtain ⟨hx, hb, hr, hml, hown, hlk, hk, hK, hZ, hN, hXs, hbl, hL, hoff, hty, hI, hJ, hG, htz, hJJ, hGG⟩ := C1
  have hS : va_S (fun q => s.heap.size ≤ q) s.heap s.heap [] := va_S.rf
  have hA : ∀ q, s.heap.size ≤ q → (fun q => s.heap.size ≤ q) q := fun _ h => h
  have hP : va_P D vwCl [] s.heap := nil_P
  have hD : va_D (fun q => s.heap.size ≤ q) [] := nil_D
  refine n_new (ci := 3) (fs := [.null, .null, .null, .int (iI 0)]) hx hb hk hown in_Clk fT_Clk kn_Law_8 kin_Clk kit_Clk hK hP hD hS hA rfl def_Clk (by show 0 + 1 ≤ 601024; omega) (by show 0 + 4 ≤ 7293034; omega) d_Law_law_0 (fun x H hP hD hS => ?_)
  have hP : va_P D vwCl [(x, .inr (3, [.null, .null, .null, .int (iI 0)]))] H := hP
  have hD : va_D (fun q => s.heap.size ≤ q) [(x, .inr (3, [.null, .null, .null, .int (iI 0)]))] := hD
  refine lv_dup hx hb d_Law_law_3 rfl ?_
  refine n_callI (rest := [.ref x]) (wr := []) hx hb (hml.trans hl.1.symm) hown hk hK hXn k_Law_48 (ct_Clk_init l D (tysL cl) _ x (cl 0) (cl 4) hty htz) hP hD hS hA [0] [] rfl rfl rfl rfl (by decide) rfl ⟨rfl, rfl⟩ ⟨by decide, by decide, by show 0 + 1 + 30 ≤ 601024; omega, by show 0 + 4 + 520 ≤ 7293034; omega⟩ (Nat.le_of_ble_eq_true rfl) d_Law_law_4 (fun w1 H locs hw hP hD hS => ?_)
  obtain ⟨t0, by0, d0, db0, de0, za0, aZ, bZ, eZ, rfl⟩ := hw
  have hP : va_P D vwCl (CW (cl 0) (cl 4) x t0 by0 d0 db0 de0 za0 aZ bZ eZ) H := hP
  have hD : va_D (fun q => s.heap.size ≤ q) (CW (cl 0) (cl 4) x t0 by0 d0 db0 de0 za0 aZ bZ eZ) := hD
  refine lv_astore_n (lv' := [(1, .ref x), (0, .ref b)]) hx hb d_Law_law_7 rfl hl (by decide) rfl (fun ls hl => ?_)
  refine n_new (ci := 4) (fs := [.int (iI 0), .null, .int (iI 0), .int (iI 0), .int (iI 0), .int (iI 0), .int (iI 0), .int (iI 0), .null, .null, .null, .null, .null, .null, .null]) hx hb hk hown in_Ref fT_Ref kn_Law_49 kin_Ref kit_Ref hK hP hD hS hA rfl def_Ref (by show 0 + 1 + 30 + 1 ≤ 601024; omega) (by show 0 + 4 + 520 + 15 ≤ 7293034; omega) d_Law_law_8 (fun y H hP hD hS => ?_)
  refine lv_dup hx hb d_Law_law_11 rfl ?_
  refine n_callI (rest := [.ref y]) (wr := CW (cl 0) (cl 4) x t0 by0 d0 db0 de0 za0 aZ bZ eZ) hx hb (hml.trans hl.1.symm) hown hk hK hXn k_Law_51 (ct_Ref_init l D (tysL cl) _ y (cl 0) (cl 1) (cl 2) (cl 3) (cl 5) (cl 6) hty hI hJ hG hJJ hGG) hP hD hS hA [31] [0, 1, 2, 3, 4, 5, 6, 7, 8, 9, 10, 11, 12, 13, 14, 15, 16, 17, 18, 19, 20, 21, 22, 23, 24, 25, 26, 27, 28, 29, 30] rfl rfl rfl rfl (by decide) rfl ⟨rfl, rfl⟩ ⟨by decide, by decide, by show 0 + 1 + 30 + 1 + 24 ≤ 601024; omega, by show 0 + 4 + 520 + 15 + 11010 ≤ 7293034; omega⟩ (Nat.le_of_ble_eq_true rfl) d_Law_law_12 (fun w1 H locs hw hP hD hS => ?_)
  obtain ⟨tA, oA, sA, eA, gA, cA, rA, fA, rfl⟩ := hw
  refine lv_astore_n (lv' := [(2, .ref y), (1, .ref x), (0, .ref b)]) hx hb d_Law_law_15 rfl hl (by decide) rfl (fun ls hl => ?_)
  refine lv_iconst (v := iI 1) hx hb d_Law_law_16 rfl ?_
  refine n_newa (atype := .long) (a0 := (1, .inr (.inl (fun _ => lL 0)))) hx hb hk ka_long rfl hK hJ (fun _ h1 h2 => n_ra (fun C h => by cases h) h1 h2) hP hD hS hA (fun _ => rfl) (by decide) (by decide) (by decide) (by show 0 + 1 + 30 + 1 + 24 + 1 ≤ 601024; omega) (by show 0 + 4 + 520 + 15 + 11010 + 1 ≤ 7293034; omega) d_Law_law_17 (fun o H hP hD hS => ?_)
  refine lv_astore_n (lv' := [(3, .ref o), (2, .ref y), (1, .ref x), (0, .ref b)]) hx hb d_Law_law_19 rfl hl (by decide) rfl (fun ls hl => ?_)
  refine lv_iconst (v := iI 0) hx hb d_Law_law_20 rfl ?_
  refine lv_istore (lv' := [(4, .int (iI 0)), (3, .ref o), (2, .ref y), (1, .ref x), (0, .ref b)]) hx hb d_Law_law_21 hl (by decide) rfl (fun ls hl => ?_)
  have hP : va_P D vwCl (LW (sel17 x t0 by0 d0 db0 de0 za0 y tA oA sA eA gA cA rA fA o) cl aZ bZ eZ (fun j => eA + 1 + j) (fun j => gA + 1 + j) (-1) 0 0 false (fun _ => iI 0) 0 0 ((0, 0, 0, 0)) ((0, 0, 0, 0)) (fun _ => 0) (fun _ => 0) (fun _ => (0, 0, 0, 0)) (fun _ => (0, 0, 0, 0)) 0 0 0 0 0 (fun _ => 0) (fun _ _ => 0) (fun _ _ => false) (fun _ => iI 0) (fun _ => lL 0) (fun _ => lL 0) (-1) 0 (fun _ => iI 0) (fun _ => 0) (fun _ => 0)) H := hP
  have hD : va_D (fun q => s.heap.size ≤ q) (LW (sel17 x t0 by0 d0 db0 de0 za0 y tA oA sA eA gA cA rA fA o) cl aZ bZ eZ (fun j => eA + 1 + j) (fun j => gA + 1 + j) (-1) 0 0 false (fun _ => iI 0) 0 0 ((0, 0, 0, 0)) ((0, 0, 0, 0)) (fun _ => 0) (fun _ => 0) (fun _ => (0, 0, 0, 0)) (fun _ => (0, 0, 0, 0)) 0 0 0 0 0 (fun _ => 0) (fun _ _ => 0) (fun _ _ => false) (fun _ => iI 0) (fun _ => lL 0) (fun _ => lL 0) (-1) 0 (fun _ => iI 0) (fun _ => 0) (fun _ => 0)) := hD
  exact law_loop (ad := (sel17 x t0 by0 d0 db0 de0 za0 y tA oA sA eA gA cA rA fA o)) (eR := fun j => eA + 1 + j) (gR := fun j => gA + 1 + j) C0 kend _ 0 (0 + 1 + 30 + 1 + 24 + 1) (0 + 4 + 520 + 15 + 11010 + 1) (-1) 0 0 false (fun _ => iI 0) 0 0 ((0, 0, 0, 0)) ((0, 0, 0, 0)) (fun _ => 0) (fun _ => 0) (fun _ => (0, 0, 0, 0)) (fun _ => (0, 0, 0, 0)) 0 0 0 0 0 (fun _ => 0) (fun _ _ => 0) (fun _ _ => false) (fun _ => iI 0) (fun _ => lL 0) (fun _ => lL 0) H locs ls rfl (by omega) (by omega) (by omega)
    ⟨by omega, fun k _ => ⟨by show (-840 : Int) ≤ 0; omega, by show (0 : Int) ≤ 840; omega, Or.inl ⟨rfl, rfl⟩⟩, fun k _ j _ => ⟨by show (-1000000000000000 : Int) ≤ 0; omega, by show (0 : Int) ≤ 1000000000000000; omega⟩, by omega, by omega⟩ hP hD hS (lv_sub hl [0, 4, 3, 2, 1] rfl)
