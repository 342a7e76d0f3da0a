/-! What holds at the law's start. By program (wip/whole/m_walk.py). -/
theorem lw_in {w : Cond} {N : Nat} (h : tables_1[N]? = some w) : w ∈ lw_tbl := List.mem_append_right _ (List.mem_of_getElem? h)
theorem tk_start {s : State} {A : Array Value} (h : ∀ w ∈ lw_tbl, w.before A s = true) : tk s := by
  intro w hw a
  obtain ⟨hm, hg⟩ := List.mem_filter.mp hw
  have h0 := h w hm
  unfold tk_good at hg
  rw [Bool.or_eq_true] at hg
  rcases hg with hg | hg
  · rw [Bool.and_eq_true] at hg
    exact va_tabs hg.1 rfl h0
  · cases w with
    | arrayClass ty => exact word_at (State.WarmedH.refl s) (Or.inr ⟨_, rfl⟩) h0
    | fieldLinkNest o i r n d t => exact va_tabs rfl rfl h0
    | methodLinkNest o i y t => exact va_tabs rfl rfl h0
    | _ => exact (Bool.false_ne_true hg).elim
theorem xS_start {s : State} {args : Array Value} (h1 : (Cond.laysStatic Bundle.tN "UNASSIGNED_STACK" Bundle.steD).before args s = true) (h2 : (Cond.laysStatic Bundle.tN "SUPPRESSED_SENTINEL" Bundle.listD).before args s = true) (r1 : (Cond.isRef (.static Bundle.tN "UNASSIGNED_STACK" Bundle.steD)).before args s = true) (r2 : (Cond.isRef (.static Bundle.tN "SUPPRESSED_SENTINEL" Bundle.listD)).before args s = true) : ∃ aS, xS aS s s.heap := by
  obtain ⟨c, k, i, f, a, cell, hc, hi, hst, ha, hcell, hs, hcls, hlt, hty⟩ := Cond.laysStatic_spec h1
  obtain ⟨c', k', i', f', a', cell', hc', hi', hst', ha', hcell', hs', hcls', hlt', hty'⟩ := Cond.laysStatic_spec h2
  have ec : c' = c := Option.some.inj (hc'.symm.trans hc)
  subst ec
  have ek : k' = k := Option.some.inj ((State.fieldFound?_spec hi').1.symm.trans (State.fieldFound?_spec hi).1)
  subst ek
  have ea : a' = a := Option.some.inj (ha'.symm.trans ha)
  subst ea
  have el : cell' = cell := Option.some.inj (hcell'.symm.trans hcell)
  subst el
  obtain ⟨u, hu⟩ := Cond.staticRefV hi hst ha hcell hs r1
  obtain ⟨v, hv⟩ := Cond.staticRefV hi' hst' ha' hcell' hs' r2
  exact ⟨a', ⟨_, _, _, _, _, u, hc, hi, hst, ha, hcell, hs, hcls, hlt, hty, hu⟩, ⟨_, _, _, _, _, v, hc', hi', hst', ha', hcell', hs', hcls', hlt', hty', hv⟩, (Array.getElem?_eq_some_iff.mp hcell).1⟩
set_option maxRecDepth 20000 in
theorem s_xS {s : State} {b : Nat} (hts : ∀ w ∈ lw_tbl, w.before #[Value.ref b] s = true) (hgv : (Jvm.Cond.and given_1 narrow_1).before #[Value.ref b] s = true) : ∃ aS, xS aS s s.heap := by
  have hs := flat_of_before _ hgv
  exact xS_start (hts _ (lw_in (N := 143) rfl)) (hts _ (lw_in (N := 145) rfl)) (hs _ (by decide +kernel)) (hs _ (by decide +kernel))
theorem s_Nc {s : State} {b : Nat} (hgv : (Jvm.Cond.and given_1 narrow_1).before #[Value.ref b] s = true) : tNc s := by
  have hs := flat_of_before _ hgv
  exact ⟨va_Nc.of (hs _ (by decide +kernel)), va_Nc.of (hs _ (by decide +kernel))⟩
set_option maxRecDepth 20000 in
theorem s_nX {s : State} {b : Nat} (hts : ∀ w ∈ lw_tbl, w.before #[Value.ref b] s = true) : nX s :=
  ⟨va_AO.of (hts (.arrayOver (.object "ZoneClock$Zone")) (lw_in (N := 90) rfl)), fun _ => hts (.arrayOver (.array .long)) (lw_in (N := 453) rfl), fun _ => hts (.arrayOver (.array .boolean)) (lw_in (N := 455) rfl)⟩
theorem s_arr {s : State} {a : Array Value} {t : FieldType} (ho : ∀ C, t ≠ .object C) (h : (Cond.arrayClass t).before a s = true) : ∃ cA, ArrOfT s cA t ∧ va_RA s cA t := by
  obtain ⟨c, k, comp, h1, h2, h3⟩ := Cond.arrayClass_spec h
  refine ⟨c, fun n z => ⟨fun k h => (by cases h), k, h2, comp, h3⟩, ?_⟩
  cases t with
  | object C => exact absurd rfl (ho C)
  | _ => exact h1
theorem s_arA {s : State} {a : Array Value} {t : FieldType} (h : (Cond.arrayOver (.array t)).before a s = true) : ∃ cA, ArrOfT s cA (.array t) ∧ va_RA s cA (.array t) := by
  obtain ⟨comp, c, k, -, -, h1, h2, h3⟩ := arrayOver_specB h
  exact ⟨c, fun n z => ⟨fun k h => (by cases h), k, h1, comp, h2⟩, h3⟩
theorem s_arO {s : State} {a : Array Value} {C : String} (h : (Cond.arrayOver (.object C)).before a s = true) : ∃ cA, ArrOfT s cA (.object C) ∧ va_RA s cA (.object C) := by
  obtain ⟨comp, c, k, h0, -, h1, h2, h3⟩ := Cond.arrayOver_spec h
  exact ⟨c, fun n z => ⟨fun k h => (by cases h), k, h1, comp, h2⟩, k, comp, h1, h2, h0, h3⟩
def sel5 {α : Type} (a0 a1 a2 a3 a4 : α) (k : Nat) : α := match k with
  | 0 => a0
  | 1 => a1
  | 2 => a2
  | 3 => a3
  | _ => a4
def sel7 {α : Type} (a0 a1 a2 a3 a4 a5 a6 : α) (k : Nat) : α := match k with
  | 0 => a0
  | 1 => a1
  | 2 => a2
  | 3 => a3
  | 4 => a4
  | 5 => a5
  | _ => a6
abbrev tysL (cl : Nat → ClassId) : List (ClassId × FieldType) := [(cl 0, .byte), (cl 1, .int), (cl 2, .long), (cl 3, .boolean), (cl 4, .object "ZoneClock$Zone"), (cl 5, .array .long), (cl 6, .array .boolean)]
theorem n5 {k : Nat} (h : k < 5) : k = 0 ∨ k = 1 ∨ k = 2 ∨ k = 3 ∨ k = 4 := by omega
theorem n7 {k : Nat} (h : k < 7) : k = 0 ∨ k = 1 ∨ k = 2 ∨ k = 3 ∨ k = 4 ∨ k = 5 ∨ k = 6 := by omega
theorem s_K {s : State} {b : Nat} (hk : tk s) (hX : nX s) : ∃ (D : va_G) (cl : Nat → ClassId), va_K D vwCl (tysL cl) s := by
  have hw : ∀ w ∈ tbg, w.before #[Value.ref b] s = true := fun w h => hk w h _
  obtain ⟨c0, i0, h0⟩ := u_known hw in_Rule (hk _ kin_Rule #[Value.ref b])
  obtain ⟨c1, i1, h1⟩ := u_known hw in_Tape (hk _ kin_Tape #[Value.ref b])
  obtain ⟨c2, i2, h2⟩ := u_known hw in_Zone (hk _ kin_Zone #[Value.ref b])
  obtain ⟨c3, i3, h3⟩ := u_known hw in_Clk (hk _ kin_Clk #[Value.ref b])
  obtain ⟨c4, i4, h4⟩ := u_known hw in_Ref (hk _ kin_Ref #[Value.ref b])
  obtain ⟨a0, g0⟩ := s_arr (fun C h => by cases h) (hk _ ka_byte #[])
  obtain ⟨a1, g1⟩ := s_arr (fun C h => by cases h) (hk _ ka_int #[])
  obtain ⟨a2, g2⟩ := s_arr (fun C h => by cases h) (hk _ ka_long #[])
  obtain ⟨a3, g3⟩ := s_arr (fun C h => by cases h) (hk _ ka_boolean #[])
  obtain ⟨a4, g4⟩ := s_arO (va_AO.use (A := #[]) hX.1)
  obtain ⟨a5, g5⟩ := s_arA (hX.2.1 #[])
  obtain ⟨a6, g6⟩ := s_arA (hX.2.2 #[])
  refine ⟨(sel5 c0 c1 c2 c3 c4, sel5 i0 i1 i2 i3 i4), sel7 a0 a1 a2 a3 a4 a5 a6, fun c q hq => ?_, fun k q hq => ?_⟩
  · have hc : c < 5 := (List.getElem?_eq_some_iff.mp hq).1
    rcases n5 hc with rfl | rfl | rfl | rfl | rfl <;> cases hq
    · exact h0
    · exact h1
    · exact h2
    · exact h3
    · exact h4
  · have hc : k < 7 := (List.getElem?_eq_some_iff.mp hq).1
    rcases n7 hc with rfl | rfl | rfl | rfl | rfl | rfl | rfl <;> cases hq
    · exact g0
    · exact g1
    · exact g2
    · exact g3
    · exact g4
    · exact g5
    · exact g6
