/-! The claim's words at a state, as they stay from state to state. -/
def tk_good (w : Cond) : Bool := (w.onTables && (w.keeps || w.faceAtom || w.castAtom)) || (match w with
  | .arrayClass _ => true
  | .fieldLinkNest _ _ _ _ _ _ => true
  | .methodLinkNest _ _ _ _ => true
  | _ => false)
theorem tk_word {s U : State} (hW : s.WarmedH U.vm) : ∀ (w : Cond), tk_good w = true → (∀ a : Array Value, w.before a s = true) → ∀ a : Array Value, w.before a U = true := by
  intro w hg h a
  unfold tk_good at hg
  rw [Bool.or_eq_true] at hg
  rcases hg with hg | hg
  · rw [Bool.and_eq_true, Bool.or_eq_true, Bool.or_eq_true] at hg
    obtain ⟨ht, (hg | hg) | hg⟩ := hg
    · exact word_at hW (Or.inl (by rw [ht, hg]; rfl)) (h #[])
    · have h1 := Cond.faceAtom_setVm (args := #[]) hW.alike w hg (h #[])
      rw [Cond.onTables_vm (A' := a) (U' := U) U.vm w ht, State.setVm_self] at h1
      exact h1
    · have h1 := Cond.castAtom_setVm (args := #[]) hW.alike w hg (h #[])
      rw [Cond.onTables_vm (A' := a) (U' := U) U.vm w ht, State.setVm_self] at h1
      exact h1
  · cases w with
    | arrayClass ty => exact word_at hW (Or.inr ⟨_, rfl⟩) (h #[])
    | fieldLinkNest o i r n d t => exact va_Nw.use rfl (va_Nw.warmF hW (va_Nw.of rfl (h #[])))
    | methodLinkNest o i y t => exact va_Nw.use rfl (va_Nw.warmM hW (va_Nw.of rfl (h #[])))
    | _ => exact (Bool.false_ne_true hg).elim
def tbg : List Cond := lw_tbl.filter tk_good
def tk (U : State) : Prop := ∀ w ∈ tbg, ∀ a : Array Value, w.before a U = true
theorem tk_warm {s U : State} (hW : s.WarmedH U.vm) (h : tk s) : tk U := fun w hw a => tk_word hW w (List.mem_filter.mp hw).2 (h w hw) a
theorem tb_mem {w : Cond} {N : Nat} (h : tables_1[N]? = some w) (hg : tk_good w = true) : w ∈ tbg := List.mem_filter.mpr ⟨List.mem_append_right _ (List.mem_of_getElem? h), hg⟩
theorem tb_sel {w : Cond} {N : Nat} (h : (k2_sels lw_privs)[N]? = some w) (hg : tk_good w = true) : w ∈ tbg := List.mem_filter.mpr ⟨List.mem_append_left _ (List.mem_of_getElem? h), hg⟩
theorem tk_of {s : State} (h : ∀ w ∈ lw_tbl, ∀ a : Array Value, w.before a s = true) : tk s := fun w hw a => h w (List.mem_filter.mp hw).1 a
