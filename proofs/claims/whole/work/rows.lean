section
-- ===== PART A: goes FIRST, ahead of the names: the tables' words, and 'selects' of the private methods out of them =====
/-- a private method of a class that the tables say can be made, by its rows of tables_1 -/
def lw_okq (q : MethodName × Nat) : Prop := (q.1.cls ≠ "java/lang/invoke/MethodHandle" ∧ q.1.cls ≠ "java/lang/invoke/VarHandle") ∧ Cond.instantiable q.1.cls q.2 ∈ tables_1 ∧ Cond.privateMethod q.1 ∈ tables_1 ∧ Cond.instanceMethod q.1 ∈ tables_1
theorem lw_p0 : lw_okq (⟨"java/lang/Throwable", "fillInStackTrace", "(I)Ljava/lang/Throwable;"⟩, 6) := ⟨⟨by decide +kernel, by decide +kernel⟩, List.mem_of_getElem? (i := 156) (by decide +kernel), List.mem_of_getElem? (i := 154) (by decide +kernel), List.mem_of_getElem? (i := 155) (by decide +kernel)⟩
theorem lw_p1 : lw_okq (⟨"ZoneClock", "zoneAt", "(I)LZoneClock$Zone;"⟩, 4) := ⟨⟨by decide +kernel, by decide +kernel⟩, List.mem_of_getElem? (i := 16) (by decide +kernel), List.mem_of_getElem? (i := 216) (by decide +kernel), List.mem_of_getElem? (i := 217) (by decide +kernel)⟩
theorem lw_p2 : lw_okq (⟨"ZoneClock$Tape", "readOffset", "()I"⟩, 4) := ⟨⟨by decide +kernel, by decide +kernel⟩, List.mem_of_getElem? (i := 24) (by decide +kernel), List.mem_of_getElem? (i := 224) (by decide +kernel), List.mem_of_getElem? (i := 225) (by decide +kernel)⟩
theorem lw_p3 : lw_okq (⟨"ZoneClock$Tape", "nextByte", "()I"⟩, 4) := ⟨⟨by decide +kernel, by decide +kernel⟩, List.mem_of_getElem? (i := 24) (by decide +kernel), List.mem_of_getElem? (i := 228) (by decide +kernel), List.mem_of_getElem? (i := 229) (by decide +kernel)⟩
theorem lw_p4 : lw_okq (⟨"ZoneClock$Tape", "readByte", "(C)V"⟩, 4) := ⟨⟨by decide +kernel, by decide +kernel⟩, List.mem_of_getElem? (i := 24) (by decide +kernel), List.mem_of_getElem? (i := 232) (by decide +kernel), List.mem_of_getElem? (i := 233) (by decide +kernel)⟩
theorem lw_p5 : lw_okq (⟨"ZoneClock$Tape", "readNumber", "(II)I"⟩, 4) := ⟨⟨by decide +kernel, by decide +kernel⟩, List.mem_of_getElem? (i := 24) (by decide +kernel), List.mem_of_getElem? (i := 236) (by decide +kernel), List.mem_of_getElem? (i := 237) (by decide +kernel)⟩
theorem lw_p6 : lw_okq (⟨"ZoneClock$Tape", "readDigits", "()I"⟩, 4) := ⟨⟨by decide +kernel, by decide +kernel⟩, List.mem_of_getElem? (i := 24) (by decide +kernel), List.mem_of_getElem? (i := 240) (by decide +kernel), List.mem_of_getElem? (i := 241) (by decide +kernel)⟩
theorem lw_p7 : lw_okq (⟨"ZoneClock$Tape", "readBlanks", "()V"⟩, 4) := ⟨⟨by decide +kernel, by decide +kernel⟩, List.mem_of_getElem? (i := 24) (by decide +kernel), List.mem_of_getElem? (i := 251) (by decide +kernel), List.mem_of_getElem? (i := 252) (by decide +kernel)⟩
theorem lw_p8 : lw_okq (⟨"ZoneClock$Tape", "readRule", "(LZoneClock$Rule;)V"⟩, 4) := ⟨⟨by decide +kernel, by decide +kernel⟩, List.mem_of_getElem? (i := 24) (by decide +kernel), List.mem_of_getElem? (i := 255) (by decide +kernel), List.mem_of_getElem? (i := 256) (by decide +kernel)⟩
theorem lw_p9 : lw_okq (⟨"ZoneClock$Rule", "momentIn", "(I)J"⟩, 4) := ⟨⟨by decide +kernel, by decide +kernel⟩, List.mem_of_getElem? (i := 51) (by decide +kernel), List.mem_of_getElem? (i := 326) (by decide +kernel), List.mem_of_getElem? (i := 327) (by decide +kernel)⟩
theorem lw_p10 : lw_okq (⟨"ZoneClockModel", "readZone", "(I)V"⟩, 15) := ⟨⟨by decide +kernel, by decide +kernel⟩, List.mem_of_getElem? (i := 447) (by decide +kernel), List.mem_of_getElem? (i := 515) (by decide +kernel), List.mem_of_getElem? (i := 516) (by decide +kernel)⟩
theorem lw_p11 : lw_okq (⟨"ZoneClockModel", "peek", "()I"⟩, 15) := ⟨⟨by decide +kernel, by decide +kernel⟩, List.mem_of_getElem? (i := 447) (by decide +kernel), List.mem_of_getElem? (i := 519) (by decide +kernel), List.mem_of_getElem? (i := 520) (by decide +kernel)⟩
theorem lw_p12 : lw_okq (⟨"ZoneClockModel", "bad", "(I)V"⟩, 15) := ⟨⟨by decide +kernel, by decide +kernel⟩, List.mem_of_getElem? (i := 447) (by decide +kernel), List.mem_of_getElem? (i := 523) (by decide +kernel), List.mem_of_getElem? (i := 524) (by decide +kernel)⟩
theorem lw_p13 : lw_okq (⟨"ZoneClockModel", "ranged", "(II)I"⟩, 15) := ⟨⟨by decide +kernel, by decide +kernel⟩, List.mem_of_getElem? (i := 447) (by decide +kernel), List.mem_of_getElem? (i := 528) (by decide +kernel), List.mem_of_getElem? (i := 529) (by decide +kernel)⟩
theorem lw_p14 : lw_okq (⟨"ZoneClockModel", "blanks", "()V"⟩, 15) := ⟨⟨by decide +kernel, by decide +kernel⟩, List.mem_of_getElem? (i := 447) (by decide +kernel), List.mem_of_getElem? (i := 537) (by decide +kernel), List.mem_of_getElem? (i := 538) (by decide +kernel)⟩
theorem lw_p15 : lw_okq (⟨"ZoneClockModel", "rule", "(I)V"⟩, 15) := ⟨⟨by decide +kernel, by decide +kernel⟩, List.mem_of_getElem? (i := 447) (by decide +kernel), List.mem_of_getElem? (i := 541) (by decide +kernel), List.mem_of_getElem? (i := 542) (by decide +kernel)⟩
def lw_privs_1 : List (MethodName × Nat) := [(⟨"java/lang/Throwable", "fillInStackTrace", "(I)Ljava/lang/Throwable;"⟩, 6), (⟨"ZoneClock", "zoneAt", "(I)LZoneClock$Zone;"⟩, 4), (⟨"ZoneClock$Tape", "readOffset", "()I"⟩, 4), (⟨"ZoneClock$Tape", "nextByte", "()I"⟩, 4), (⟨"ZoneClock$Tape", "readByte", "(C)V"⟩, 4), (⟨"ZoneClock$Tape", "readNumber", "(II)I"⟩, 4), (⟨"ZoneClock$Tape", "readDigits", "()I"⟩, 4), (⟨"ZoneClock$Tape", "readBlanks", "()V"⟩, 4), (⟨"ZoneClock$Tape", "readRule", "(LZoneClock$Rule;)V"⟩, 4), (⟨"ZoneClock$Rule", "momentIn", "(I)J"⟩, 4), (⟨"ZoneClockModel", "readZone", "(I)V"⟩, 15), (⟨"ZoneClockModel", "peek", "()I"⟩, 15), (⟨"ZoneClockModel", "bad", "(I)V"⟩, 15), (⟨"ZoneClockModel", "ranged", "(II)I"⟩, 15), (⟨"ZoneClockModel", "blanks", "()V"⟩, 15), (⟨"ZoneClockModel", "rule", "(I)V"⟩, 15)]
theorem lw_r1 : ∀ q ∈ lw_privs_1, lw_okq q := List.forall_mem_cons.mpr ⟨lw_p0, List.forall_mem_cons.mpr ⟨lw_p1, List.forall_mem_cons.mpr ⟨lw_p2, List.forall_mem_cons.mpr ⟨lw_p3, List.forall_mem_cons.mpr ⟨lw_p4, List.forall_mem_cons.mpr ⟨lw_p5, List.forall_mem_cons.mpr ⟨lw_p6, List.forall_mem_cons.mpr ⟨lw_p7, List.forall_mem_cons.mpr ⟨lw_p8, List.forall_mem_cons.mpr ⟨lw_p9, List.forall_mem_cons.mpr ⟨lw_p10, List.forall_mem_cons.mpr ⟨lw_p11, List.forall_mem_cons.mpr ⟨lw_p12, List.forall_mem_cons.mpr ⟨lw_p13, List.forall_mem_cons.mpr ⟨lw_p14, List.forall_mem_cons.mpr ⟨lw_p15, fun _ h => absurd h List.not_mem_nil⟩⟩⟩⟩⟩⟩⟩⟩⟩⟩⟩⟩⟩⟩⟩⟩
theorem lw_p16 : lw_okq (⟨"ZoneClockModel", "expect", "(I)V"⟩, 15) := ⟨⟨by decide +kernel, by decide +kernel⟩, List.mem_of_getElem? (i := 447) (by decide +kernel), List.mem_of_getElem? (i := 545) (by decide +kernel), List.mem_of_getElem? (i := 546) (by decide +kernel)⟩
theorem lw_p17 : lw_okq (⟨"ZoneClockModel", "ruleDay", "(II)I"⟩, 15) := ⟨⟨by decide +kernel, by decide +kernel⟩, List.mem_of_getElem? (i := 447) (by decide +kernel), List.mem_of_getElem? (i := 549) (by decide +kernel), List.mem_of_getElem? (i := 550) (by decide +kernel)⟩
theorem lw_p18 : lw_okq (⟨"ZoneClockModel", "event", "(IJZ)V"⟩, 15) := ⟨⟨by decide +kernel, by decide +kernel⟩, List.mem_of_getElem? (i := 447) (by decide +kernel), List.mem_of_getElem? (i := 568) (by decide +kernel), List.mem_of_getElem? (i := 569) (by decide +kernel)⟩
theorem lw_p19 : lw_okq (⟨"ZoneClockModel", "out", "(IJ)Z"⟩, 15) := ⟨⟨by decide +kernel, by decide +kernel⟩, List.mem_of_getElem? (i := 447) (by decide +kernel), List.mem_of_getElem? (i := 576) (by decide +kernel), List.mem_of_getElem? (i := 577) (by decide +kernel)⟩
theorem lw_p20 : lw_okq (⟨"ZoneClockModel", "fail", "(I)I"⟩, 15) := ⟨⟨by decide +kernel, by decide +kernel⟩, List.mem_of_getElem? (i := 447) (by decide +kernel), List.mem_of_getElem? (i := 581) (by decide +kernel), List.mem_of_getElem? (i := 582) (by decide +kernel)⟩
theorem lw_p21 : lw_okq (⟨"ZoneClockModel", "localAt", "(IJ)J"⟩, 15) := ⟨⟨by decide +kernel, by decide +kernel⟩, List.mem_of_getElem? (i := 447) (by decide +kernel), List.mem_of_getElem? (i := 585) (by decide +kernel), List.mem_of_getElem? (i := 586) (by decide +kernel)⟩
theorem lw_p22 : lw_okq (⟨"ZoneClockModel", "passed", "(IJ)I"⟩, 15) := ⟨⟨by decide +kernel, by decide +kernel⟩, List.mem_of_getElem? (i := 447) (by decide +kernel), List.mem_of_getElem? (i := 589) (by decide +kernel), List.mem_of_getElem? (i := 590) (by decide +kernel)⟩
theorem lw_p23 : lw_okq (⟨"ZoneClockModel", "minutes", "(II)I"⟩, 15) := ⟨⟨by decide +kernel, by decide +kernel⟩, List.mem_of_getElem? (i := 447) (by decide +kernel), List.mem_of_getElem? (i := 593) (by decide +kernel), List.mem_of_getElem? (i := 594) (by decide +kernel)⟩
theorem lw_p24 : lw_okq (⟨"ZoneClockModel", "find", "(IJ)I"⟩, 15) := ⟨⟨by decide +kernel, by decide +kernel⟩, List.mem_of_getElem? (i := 447) (by decide +kernel), List.mem_of_getElem? (i := 601) (by decide +kernel), List.mem_of_getElem? (i := 602) (by decide +kernel)⟩
theorem lw_p25 : lw_okq (⟨"ZoneClockModel", "date", "(I)V"⟩, 15) := ⟨⟨by decide +kernel, by decide +kernel⟩, List.mem_of_getElem? (i := 447) (by decide +kernel), List.mem_of_getElem? (i := 623) (by decide +kernel), List.mem_of_getElem? (i := 624) (by decide +kernel)⟩
theorem lw_p26 : lw_okq (⟨"ZoneClockModel", "summer", "(II)Z"⟩, 15) := ⟨⟨by decide +kernel, by decide +kernel⟩, List.mem_of_getElem? (i := 447) (by decide +kernel), List.mem_of_getElem? (i := 628) (by decide +kernel), List.mem_of_getElem? (i := 629) (by decide +kernel)⟩
def lw_privs_2 : List (MethodName × Nat) := [(⟨"ZoneClockModel", "expect", "(I)V"⟩, 15), (⟨"ZoneClockModel", "ruleDay", "(II)I"⟩, 15), (⟨"ZoneClockModel", "event", "(IJZ)V"⟩, 15), (⟨"ZoneClockModel", "out", "(IJ)Z"⟩, 15), (⟨"ZoneClockModel", "fail", "(I)I"⟩, 15), (⟨"ZoneClockModel", "localAt", "(IJ)J"⟩, 15), (⟨"ZoneClockModel", "passed", "(IJ)I"⟩, 15), (⟨"ZoneClockModel", "minutes", "(II)I"⟩, 15), (⟨"ZoneClockModel", "find", "(IJ)I"⟩, 15), (⟨"ZoneClockModel", "date", "(I)V"⟩, 15), (⟨"ZoneClockModel", "summer", "(II)Z"⟩, 15)]
theorem lw_r2 : ∀ q ∈ lw_privs_2, lw_okq q := List.forall_mem_cons.mpr ⟨lw_p16, List.forall_mem_cons.mpr ⟨lw_p17, List.forall_mem_cons.mpr ⟨lw_p18, List.forall_mem_cons.mpr ⟨lw_p19, List.forall_mem_cons.mpr ⟨lw_p20, List.forall_mem_cons.mpr ⟨lw_p21, List.forall_mem_cons.mpr ⟨lw_p22, List.forall_mem_cons.mpr ⟨lw_p23, List.forall_mem_cons.mpr ⟨lw_p24, List.forall_mem_cons.mpr ⟨lw_p25, List.forall_mem_cons.mpr ⟨lw_p26, fun _ h => absurd h List.not_mem_nil⟩⟩⟩⟩⟩⟩⟩⟩⟩⟩⟩
def lw_privs : List (MethodName × Nat) := lw_privs_1 ++ (lw_privs_2)
def lw_tbl : List Cond := k2_sels lw_privs ++ tables_1
theorem lw_privs_ok : ∀ q ∈ lw_privs, lw_okq q := by
  show ∀ q ∈ lw_privs_1 ++ (lw_privs_2), lw_okq q
  exact List.forall_mem_append.mpr ⟨lw_r1, lw_r2⟩
end
section
/-! The claim's words at a state, as they stay from state to state. -/
def tk_good (w : Cond) : Bool := (w.onTables && (w.keeps || w.faceAtom || w.castAtom)) || (match w with
  | .arrayClass _ => true
  | .fieldLinkNest _ _ _ _ _ _ => true
  | .methodLinkNest _ _ _ _ => true
  | _ => false)
theorem tk_word {s U : State} (hW : s.WarmedH U.vm) : ∀ (w : Cond), tk_good w = true → (∀ a : Array Value, w.before a s = true) → ∀ a : Array Value, w.before a U = true := by
  intro w hg h a
  unfold tk_good at hg
  rw [Bool.or_eq_true] at hg
  rcases hg with hg | hg
  · rw [Bool.and_eq_true, Bool.or_eq_true, Bool.or_eq_true] at hg
    obtain ⟨ht, (hg | hg) | hg⟩ := hg
    · exact word_at hW (Or.inl (by rw [ht, hg]; rfl)) (h #[])
    · have h1 := Cond.faceAtom_setVm (args := #[]) hW.alike w hg (h #[])
      rw [Cond.onTables_vm (A' := a) (U' := U) U.vm w ht, State.setVm_self] at h1
      exact h1
    · have h1 := Cond.castAtom_setVm (args := #[]) hW.alike w hg (h #[])
      rw [Cond.onTables_vm (A' := a) (U' := U) U.vm w ht, State.setVm_self] at h1
      exact h1
  · cases w with
    | arrayClass ty => exact word_at hW (Or.inr ⟨_, rfl⟩) (h #[])
    | fieldLinkNest o i r n d t => exact va_Nw.use rfl (va_Nw.warmF hW (va_Nw.of rfl (h #[])))
    | methodLinkNest o i y t => exact va_Nw.use rfl (va_Nw.warmM hW (va_Nw.of rfl (h #[])))
    | _ => exact (Bool.false_ne_true hg).elim
def tbg : List Cond := lw_tbl.filter tk_good
def tk (U : State) : Prop := ∀ w ∈ tbg, ∀ a : Array Value, w.before a U = true
theorem tk_warm {s U : State} (hW : s.WarmedH U.vm) (h : tk s) : tk U := fun w hw a => tk_word hW w (List.mem_filter.mp hw).2 (h w hw) a
theorem tb_mem {w : Cond} {N : Nat} (h : tables_1[N]? = some w) (hg : tk_good w = true) : w ∈ tbg := List.mem_filter.mpr ⟨List.mem_append_right _ (List.mem_of_getElem? h), hg⟩
theorem tb_sel {w : Cond} {N : Nat} (h : (k2_sels lw_privs)[N]? = some w) (hg : tk_good w = true) : w ∈ tbg := List.mem_filter.mpr ⟨List.mem_append_left _ (List.mem_of_getElem? h), hg⟩
theorem tk_of {s : State} (h : ∀ w ∈ lw_tbl, ∀ a : Array Value, w.before a s = true) : tk s := fun w hw a => h w (List.mem_filter.mp hw).1 a
end
section
/-! Names: classes, their fields by their slots, methods and their codes. By program (wip/whole/names.py) out of the claim's own text. -/
def R_Clk : String := "ZoneClock"
def R_Cal : String := "ZoneClock$Calendar"
def R_Rule : String := "ZoneClock$Rule"
def R_Tape : String := "ZoneClock$Tape"
def R_Zone : String := "ZoneClock$Zone"
def R_Ref : String := "ZoneClockModel"
def R_Law : String := "ZoneClockLaw"
def R_Math : String := "java/lang/Math"
def T_Rule : u_T := fun k => match k with
  | 0 => ("ZoneClock$Rule", "month", "I", false)
  | 1 => ("ZoneClock$Rule", "week", "I", false)
  | 2 => ("ZoneClock$Rule", "weekday", "I", false)
  | _ => ("ZoneClock$Rule", "minute", "I", false)
def ty_Rule : Nat → FieldType := fun k => match k with
  | 0 => .int
  | 1 => .int
  | 2 => .int
  | _ => .int
theorem nm_Rule : ∀ a, a < 4 → ∀ b, b < 4 → a ≠ b → (T_Rule a).2.1 ≠ (T_Rule b).2.1 := by decide +kernel
theorem ok_Rule : ∀ k, k < 4 → parseFieldDescriptor (T_Rule k).2.2.1 = some (ty_Rule k) := by decide +kernel
theorem in_Rule : ∀ w ∈ u_ws R_Rule T_Rule 4, w ∈ tbg := by decide +kernel
def T_Tape : u_T := fun k => match k with
  | 0 => ("ZoneClock$Tape", "bytes", "[B", true)
  | 1 => ("ZoneClock$Tape", "length", "I", false)
  | 2 => ("ZoneClock$Tape", "position", "I", false)
  | _ => ("ZoneClock$Tape", "broken", "Z", false)
def ty_Tape : Nat → FieldType := fun k => match k with
  | 0 => .array .byte
  | 1 => .int
  | 2 => .int
  | _ => .boolean
theorem nm_Tape : ∀ a, a < 4 → ∀ b, b < 4 → a ≠ b → (T_Tape a).2.1 ≠ (T_Tape b).2.1 := by decide +kernel
theorem ok_Tape : ∀ k, k < 4 → parseFieldDescriptor (T_Tape k).2.2.1 = some (ty_Tape k) := by decide +kernel
theorem in_Tape : ∀ w ∈ u_ws R_Tape T_Tape 4, w ∈ tbg := by decide +kernel
def T_Zone : u_T := fun k => match k with
  | 0 => ("ZoneClock$Zone", "offset", "I", false)
  | 1 => ("ZoneClock$Zone", "save", "I", false)
  | 2 => ("ZoneClock$Zone", "begin", "LZoneClock$Rule;", true)
  | _ => ("ZoneClock$Zone", "end", "LZoneClock$Rule;", true)
def ty_Zone : Nat → FieldType := fun k => match k with
  | 0 => .int
  | 1 => .int
  | 2 => .object "ZoneClock$Rule"
  | _ => .object "ZoneClock$Rule"
theorem nm_Zone : ∀ a, a < 4 → ∀ b, b < 4 → a ≠ b → (T_Zone a).2.1 ≠ (T_Zone b).2.1 := by decide +kernel
theorem ok_Zone : ∀ k, k < 4 → parseFieldDescriptor (T_Zone k).2.2.1 = some (ty_Zone k) := by decide +kernel
theorem in_Zone : ∀ w ∈ u_ws R_Zone T_Zone 4, w ∈ tbg := by decide +kernel
def T_Clk : u_T := fun k => match k with
  | 0 => ("ZoneClock", "tape", "LZoneClock$Tape;", true)
  | 1 => ("ZoneClock", "draft", "LZoneClock$Zone;", true)
  | 2 => ("ZoneClock", "zones", "[LZoneClock$Zone;", true)
  | _ => ("ZoneClock", "brokenPlace", "I", false)
def ty_Clk : Nat → FieldType := fun k => match k with
  | 0 => .object "ZoneClock$Tape"
  | 1 => .object "ZoneClock$Zone"
  | 2 => .array (.object "ZoneClock$Zone")
  | _ => .int
theorem nm_Clk : ∀ a, a < 4 → ∀ b, b < 4 → a ≠ b → (T_Clk a).2.1 ≠ (T_Clk b).2.1 := by decide +kernel
theorem ok_Clk : ∀ k, k < 4 → parseFieldDescriptor (T_Clk k).2.2.1 = some (ty_Clk k) := by decide +kernel
theorem in_Clk : ∀ w ∈ u_ws R_Clk T_Clk 4, w ∈ tbg := by decide +kernel
def T_Ref : u_T := fun k => match k with
  | 0 => ("ZoneClockModel", "failed", "I", false)
  | 1 => ("ZoneClockModel", "tape", "[B", true)
  | 2 => ("ZoneClockModel", "taped", "I", false)
  | 3 => ("ZoneClockModel", "place", "I", false)
  | 4 => ("ZoneClockModel", "year", "I", false)
  | 5 => ("ZoneClockModel", "month", "I", false)
  | 6 => ("ZoneClockModel", "day", "I", false)
  | 7 => ("ZoneClockModel", "at", "I", false)
  | 8 => ("ZoneClockModel", "offsets", "[I", true)
  | 9 => ("ZoneClockModel", "saves", "[I", true)
  | 10 => ("ZoneClockModel", "events", "[[J", true)
  | 11 => ("ZoneClockModel", "begins", "[[Z", true)
  | 12 => ("ZoneClockModel", "eventCounts", "[I", true)
  | 13 => ("ZoneClockModel", "rule", "[I", true)
  | _ => ("ZoneClockModel", "found", "[J", true)
def ty_Ref : Nat → FieldType := fun k => match k with
  | 0 => .int
  | 1 => .array .byte
  | 2 => .int
  | 3 => .int
  | 4 => .int
  | 5 => .int
  | 6 => .int
  | 7 => .int
  | 8 => .array .int
  | 9 => .array .int
  | 10 => .array (.array .long)
  | 11 => .array (.array .boolean)
  | 12 => .array .int
  | 13 => .array .int
  | _ => .array .long
theorem nm_Ref : ∀ a, a < 15 → ∀ b, b < 15 → a ≠ b → (T_Ref a).2.1 ≠ (T_Ref b).2.1 := by decide +kernel
theorem ok_Ref : ∀ k, k < 15 → parseFieldDescriptor (T_Ref k).2.2.1 = some (ty_Ref k) := by decide +kernel
theorem in_Ref : ∀ w ∈ u_ws R_Ref T_Ref 15, w ∈ tbg := by decide +kernel
/-- the classes whose objects the worlds hold: 0 Rule, 1 Tape, 2 Zone, 3 ZoneClock, 4 ZoneClockModel -/
abbrev vwCl : List vw_C := [(R_Rule, T_Rule, 4), (R_Tape, T_Tape, 4), (R_Zone, T_Zone, 4), (R_Clk, T_Clk, 4), (R_Ref, T_Ref, 15)]
abbrev c_Clk_init : ByteArray := prog_1_method_1_code
def y_Clk_init : MethodName := ⟨R_Clk, "<init>", "()V"⟩
abbrev c_Tape_init : ByteArray := prog_4_method_1_code
def y_Tape_init : MethodName := ⟨R_Tape, "<init>", "()V"⟩
abbrev c_Zone_init : ByteArray := prog_5_method_1_code
def y_Zone_init : MethodName := ⟨R_Zone, "<init>", "()V"⟩
abbrev c_Rule_init : ByteArray := prog_3_method_1_code
def y_Rule_init : MethodName := ⟨R_Rule, "<init>", "()V"⟩
abbrev c_Clk_place : ByteArray := prog_1_method_10_code
def y_Clk_place : MethodName := ⟨R_Clk, "place", "()I"⟩
abbrev c_Law_feed : ByteArray := method_3_code
def y_Law_feed : MethodName := ⟨R_Law, "feed", "(LZoneClock;IIIII[J)I"⟩
abbrev c_Clk_feed : ByteArray := prog_1_method_2_code
def y_Clk_feed : MethodName := ⟨R_Clk, "feed", "(IIIII)I"⟩
abbrev c_Tape_append : ByteArray := prog_4_method_2_code
def y_Tape_append : MethodName := ⟨R_Tape, "append", "(I)V"⟩
abbrev c_Law_end : ByteArray := method_4_code
def y_Law_end : MethodName := ⟨R_Law, "end", "(LZoneClock;I[J)I"⟩
abbrev c_Clk_end : ByteArray := prog_1_method_3_code
def y_Clk_end : MethodName := ⟨R_Clk, "end", "(I)I"⟩
abbrev c_Law_zone : ByteArray := method_5_code
def y_Law_zone : MethodName := ⟨R_Law, "zone", "(LZoneClock;I)I"⟩
abbrev c_Clk_zone : ByteArray := prog_1_method_4_code
def y_Clk_zone : MethodName := ⟨R_Clk, "zone", "(I)V"⟩
abbrev c_Clk_zoneAt : ByteArray := prog_1_method_11_code
def y_Clk_zoneAt : MethodName := ⟨R_Clk, "zoneAt", "(I)LZoneClock$Zone;"⟩
abbrev c_Tape_readZone : ByteArray := prog_4_method_3_code
def y_Tape_readZone : MethodName := ⟨R_Tape, "readZone", "(LZoneClock$Zone;)I"⟩
abbrev c_Tape_readOffset : ByteArray := prog_4_method_4_code
def y_Tape_readOffset : MethodName := ⟨R_Tape, "readOffset", "()I"⟩
abbrev c_Tape_nextByte : ByteArray := prog_4_method_10_code
def y_Tape_nextByte : MethodName := ⟨R_Tape, "nextByte", "()I"⟩
abbrev c_Tape_readByte : ByteArray := prog_4_method_6_code
def y_Tape_readByte : MethodName := ⟨R_Tape, "readByte", "(C)V"⟩
abbrev c_Tape_readNumber : ByteArray := prog_4_method_8_code
def y_Tape_readNumber : MethodName := ⟨R_Tape, "readNumber", "(II)I"⟩
abbrev c_Tape_readDigits : ByteArray := prog_4_method_9_code
def y_Tape_readDigits : MethodName := ⟨R_Tape, "readDigits", "()I"⟩
abbrev c_Tape_isDigit : ByteArray := prog_4_method_11_code
def y_Tape_isDigit : MethodName := ⟨R_Tape, "isDigit", "(I)Z"⟩
abbrev c_Math_minI : ByteArray := prog_11_method_69_code
def y_Math_minI : MethodName := ⟨R_Math, "min", "(II)I"⟩
abbrev c_Tape_readBlanks : ByteArray := prog_4_method_7_code
def y_Tape_readBlanks : MethodName := ⟨R_Tape, "readBlanks", "()V"⟩
abbrev c_Tape_readRule : ByteArray := prog_4_method_5_code
def y_Tape_readRule : MethodName := ⟨R_Tape, "readRule", "(LZoneClock$Rule;)V"⟩
abbrev c_Zone_become : ByteArray := prog_5_method_2_code
def y_Zone_become : MethodName := ⟨R_Zone, "become", "(LZoneClock$Zone;)V"⟩
abbrev c_Rule_become : ByteArray := prog_3_method_2_code
def y_Rule_become : MethodName := ⟨R_Rule, "become", "(LZoneClock$Rule;)V"⟩
abbrev c_Law_local : ByteArray := method_6_code
def y_Law_local : MethodName := ⟨R_Law, "local", "(LZoneClock;IJ[J)I"⟩
abbrev c_Clk_local : ByteArray := prog_1_method_5_code
def y_Clk_local : MethodName := ⟨R_Clk, "local", "(IJ)J"⟩
abbrev c_Clk_checkTime : ByteArray := prog_1_method_12_code
def y_Clk_checkTime : MethodName := ⟨R_Clk, "checkTime", "(J)V"⟩
abbrev c_Zone_minutesAt : ByteArray := prog_5_method_4_code
def y_Zone_minutesAt : MethodName := ⟨R_Zone, "minutesAt", "(J)I"⟩
abbrev c_Zone_isSummer : ByteArray := prog_5_method_3_code
def y_Zone_isSummer : MethodName := ⟨R_Zone, "isSummer", "(J)Z"⟩
abbrev c_Rule_lastUpTo : ByteArray := prog_3_method_3_code
def y_Rule_lastUpTo : MethodName := ⟨R_Rule, "lastUpTo", "(JI)J"⟩
abbrev c_Cal_dayAt : ByteArray := prog_2_method_3_code
def y_Cal_dayAt : MethodName := ⟨R_Cal, "dayAt", "(J)I"⟩
abbrev c_Math_floorDivJ : ByteArray := prog_11_method_49_code
def y_Math_floorDivJ : MethodName := ⟨R_Math, "floorDiv", "(JJ)J"⟩
abbrev c_Cal_yearOf : ByteArray := prog_2_method_5_code
def y_Cal_yearOf : MethodName := ⟨R_Cal, "yearOf", "(I)I"⟩
abbrev c_Math_floorDivI : ByteArray := prog_11_method_47_code
def y_Math_floorDivI : MethodName := ⟨R_Math, "floorDiv", "(II)I"⟩
abbrev c_Cal_firstDayOf : ByteArray := prog_2_method_7_code
def y_Cal_firstDayOf : MethodName := ⟨R_Cal, "firstDayOf", "(II)I"⟩
abbrev c_Cal_lengthOf : ByteArray := prog_2_method_8_code
def y_Cal_lengthOf : MethodName := ⟨R_Cal, "lengthOf", "(II)I"⟩
abbrev c_Rule_momentIn : ByteArray := prog_3_method_5_code
def y_Rule_momentIn : MethodName := ⟨R_Rule, "momentIn", "(I)J"⟩
abbrev c_Cal_weekdayOf : ByteArray := prog_2_method_4_code
def y_Cal_weekdayOf : MethodName := ⟨R_Cal, "weekdayOf", "(I)I"⟩
abbrev c_Math_floorModI : ByteArray := prog_11_method_50_code
def y_Math_floorModI : MethodName := ⟨R_Math, "floorMod", "(II)I"⟩
abbrev c_Law_many : ByteArray := method_7_code
def y_Law_many : MethodName := ⟨R_Law, "many", "(LZoneClock;IJ[J)I"⟩
abbrev c_Clk_many : ByteArray := prog_1_method_6_code
def y_Clk_many : MethodName := ⟨R_Clk, "many", "(IJ)I"⟩
abbrev c_Zone_isReadInSummer : ByteArray := prog_5_method_8_code
def y_Zone_isReadInSummer : MethodName := ⟨R_Zone, "isReadInSummer", "(J)Z"⟩
abbrev c_Zone_fromSummerReading : ByteArray := prog_5_method_6_code
def y_Zone_fromSummerReading : MethodName := ⟨R_Zone, "fromSummerReading", "(J)J"⟩
abbrev c_Zone_isReadOutsideSummer : ByteArray := prog_5_method_7_code
def y_Zone_isReadOutsideSummer : MethodName := ⟨R_Zone, "isReadOutsideSummer", "(J)Z"⟩
abbrev c_Zone_fromPlainReading : ByteArray := prog_5_method_5_code
def y_Zone_fromPlainReading : MethodName := ⟨R_Zone, "fromPlainReading", "(J)J"⟩
abbrev c_Law_universal : ByteArray := method_8_code
def y_Law_universal : MethodName := ⟨R_Law, "universal", "(LZoneClock;IJZ[J)I"⟩
abbrev c_Clk_universal : ByteArray := prog_1_method_7_code
def y_Clk_universal : MethodName := ⟨R_Clk, "universal", "(IJZ)J"⟩
abbrev c_Law_change : ByteArray := method_9_code
def y_Law_change : MethodName := ⟨R_Law, "change", "(LZoneClock;IJZ[J)I"⟩
abbrev c_Clk_change : ByteArray := prog_1_method_8_code
def y_Clk_change : MethodName := ⟨R_Clk, "change", "(IJZ)J"⟩
abbrev c_Zone_lastChangeUpTo : ByteArray := prog_5_method_9_code
def y_Zone_lastChangeUpTo : MethodName := ⟨R_Zone, "lastChangeUpTo", "(J)J"⟩
abbrev c_Math_maxJ : ByteArray := prog_11_method_66_code
def y_Math_maxJ : MethodName := ⟨R_Math, "max", "(JJ)J"⟩
abbrev c_Zone_firstChangeBehind : ByteArray := prog_5_method_10_code
def y_Zone_firstChangeBehind : MethodName := ⟨R_Zone, "firstChangeBehind", "(J)J"⟩
abbrev c_Rule_firstBehind : ByteArray := prog_3_method_4_code
def y_Rule_firstBehind : MethodName := ⟨R_Rule, "firstBehind", "(JI)J"⟩
abbrev c_Math_maxI : ByteArray := prog_11_method_65_code
def y_Math_maxI : MethodName := ⟨R_Math, "max", "(II)I"⟩
abbrev c_Math_minJ : ByteArray := prog_11_method_70_code
def y_Math_minJ : MethodName := ⟨R_Math, "min", "(JJ)J"⟩
abbrev c_Law_field : ByteArray := method_10_code
def y_Law_field : MethodName := ⟨R_Law, "field", "(LZoneClock;IJI[J)I"⟩
abbrev c_Clk_field : ByteArray := prog_1_method_9_code
def y_Clk_field : MethodName := ⟨R_Clk, "field", "(IJI)I"⟩
abbrev c_Cal_partOf : ByteArray := prog_2_method_2_code
def y_Cal_partOf : MethodName := ⟨R_Cal, "partOf", "(JI)I"⟩
abbrev c_Math_floorModJ : ByteArray := prog_11_method_52_code
def y_Math_floorModJ : MethodName := ⟨R_Math, "floorMod", "(JJ)J"⟩
abbrev c_Cal_monthOf : ByteArray := prog_2_method_6_code
def y_Cal_monthOf : MethodName := ⟨R_Cal, "monthOf", "(II)I"⟩
abbrev c_Ref_init : ByteArray := prog_7_method_1_code
def y_Ref_init : MethodName := ⟨R_Ref, "<init>", "()V"⟩
abbrev c_Ref_thrown : ByteArray := prog_7_method_2_code
def y_Ref_thrown : MethodName := ⟨R_Ref, "thrown", "()I"⟩
abbrev c_Ref_zone : ByteArray := prog_7_method_18_code
def y_Ref_zone : MethodName := ⟨R_Ref, "zone", "(I)V"⟩
abbrev c_Ref_readZone : ByteArray := prog_7_method_19_code
def y_Ref_readZone : MethodName := ⟨R_Ref, "readZone", "(I)V"⟩
abbrev c_Ref_peek : ByteArray := prog_7_method_10_code
def y_Ref_peek : MethodName := ⟨R_Ref, "peek", "()I"⟩
abbrev c_Ref_bad : ByteArray := prog_7_method_9_code
def y_Ref_bad : MethodName := ⟨R_Ref, "bad", "(I)V"⟩
abbrev c_Ref_ranged : ByteArray := prog_7_method_14_code
def y_Ref_ranged : MethodName := ⟨R_Ref, "ranged", "(II)I"⟩
abbrev c_Ref_digit : ByteArray := prog_7_method_11_code
def y_Ref_digit : MethodName := ⟨R_Ref, "digit", "(I)Z"⟩
abbrev c_Ref_blanks : ByteArray := prog_7_method_13_code
def y_Ref_blanks : MethodName := ⟨R_Ref, "blanks", "()V"⟩
abbrev c_Ref_rule : ByteArray := prog_7_method_15_code
def y_Ref_rule : MethodName := ⟨R_Ref, "rule", "(I)V"⟩
abbrev c_Ref_expect : ByteArray := prog_7_method_12_code
def y_Ref_expect : MethodName := ⟨R_Ref, "expect", "(I)V"⟩
abbrev c_Ref_ruleDay : ByteArray := prog_7_method_16_code
def y_Ref_ruleDay : MethodName := ⟨R_Ref, "ruleDay", "(II)I"⟩
abbrev c_Ref_number : ByteArray := prog_7_method_6_code
def y_Ref_number : MethodName := ⟨R_Ref, "number", "(II)I"⟩
abbrev c_Ref_length : ByteArray := prog_7_method_5_code
def y_Ref_length : MethodName := ⟨R_Ref, "length", "(II)I"⟩
abbrev c_Ref_leap : ByteArray := prog_7_method_4_code
def y_Ref_leap : MethodName := ⟨R_Ref, "leap", "(I)Z"⟩
abbrev c_Ref_weekday : ByteArray := prog_7_method_8_code
def y_Ref_weekday : MethodName := ⟨R_Ref, "weekday", "(I)I"⟩
abbrev c_Ref_event : ByteArray := prog_7_method_17_code
def y_Ref_event : MethodName := ⟨R_Ref, "event", "(IJZ)V"⟩
abbrev c_Ref_local : ByteArray := prog_7_method_25_code
def y_Ref_local : MethodName := ⟨R_Ref, "local", "(IJ)J"⟩
abbrev c_Ref_out : ByteArray := prog_7_method_24_code
def y_Ref_out : MethodName := ⟨R_Ref, "out", "(IJ)Z"⟩
abbrev c_Ref_fail : ByteArray := prog_7_method_3_code
def y_Ref_fail : MethodName := ⟨R_Ref, "fail", "(I)I"⟩
abbrev c_Ref_localAt : ByteArray := prog_7_method_23_code
def y_Ref_localAt : MethodName := ⟨R_Ref, "localAt", "(IJ)J"⟩
abbrev c_Ref_passed : ByteArray := prog_7_method_20_code
def y_Ref_passed : MethodName := ⟨R_Ref, "passed", "(IJ)I"⟩
abbrev c_Ref_minutes : ByteArray := prog_7_method_21_code
def y_Ref_minutes : MethodName := ⟨R_Ref, "minutes", "(II)I"⟩
abbrev c_Ref_many : ByteArray := prog_7_method_27_code
def y_Ref_many : MethodName := ⟨R_Ref, "many", "(IJ)I"⟩
abbrev c_Ref_find : ByteArray := prog_7_method_26_code
def y_Ref_find : MethodName := ⟨R_Ref, "find", "(IJ)I"⟩
abbrev c_Ref_universal : ByteArray := prog_7_method_28_code
def y_Ref_universal : MethodName := ⟨R_Ref, "universal", "(IJZ)J"⟩
abbrev c_Ref_change : ByteArray := prog_7_method_29_code
def y_Ref_change : MethodName := ⟨R_Ref, "change", "(IJZ)J"⟩
abbrev c_Ref_field : ByteArray := prog_7_method_30_code
def y_Ref_field : MethodName := ⟨R_Ref, "field", "(IJI)I"⟩
abbrev c_Ref_date : ByteArray := prog_7_method_7_code
def y_Ref_date : MethodName := ⟨R_Ref, "date", "(I)V"⟩
abbrev c_Ref_summer : ByteArray := prog_7_method_22_code
def y_Ref_summer : MethodName := ⟨R_Ref, "summer", "(II)Z"⟩
abbrev c_Ref_place : ByteArray := prog_7_method_31_code
def y_Ref_place : MethodName := ⟨R_Ref, "place", "()I"⟩
abbrev c_Ref_feed : ByteArray := prog_7_method_32_code
def y_Ref_feed : MethodName := ⟨R_Ref, "feed", "(IIIII)I"⟩
abbrev c_Ref_end : ByteArray := prog_7_method_33_code
def y_Ref_end : MethodName := ⟨R_Ref, "end", "(I)I"⟩
abbrev c_Law_law : ByteArray := code
def y_Law_law : MethodName := ⟨R_Law, "law", "([I)Z"⟩
end
section
/-! Decode rows. By program (wip/whole/names.py). -/
theorem d_Clk_init_0 : decode c_Clk_init 0 = .ok (.aload_n 0, 1) := by decide +kernel
theorem d_Clk_init_1 : decode c_Clk_init 1 = .ok (.invokespecial 1, 3) := by decide +kernel
theorem d_Clk_init_4 : decode c_Clk_init 4 = .ok (.aload_n 0, 1) := by decide +kernel
theorem d_Clk_init_5 : decode c_Clk_init 5 = .ok (.new 7, 3) := by decide +kernel
theorem d_Clk_init_8 : decode c_Clk_init 8 = .ok (.dup, 1) := by decide +kernel
theorem d_Clk_init_9 : decode c_Clk_init 9 = .ok (.invokespecial 9, 3) := by decide +kernel
theorem d_Clk_init_12 : decode c_Clk_init 12 = .ok (.putfield 10, 3) := by decide +kernel
theorem d_Clk_init_15 : decode c_Clk_init 15 = .ok (.aload_n 0, 1) := by decide +kernel
theorem d_Clk_init_16 : decode c_Clk_init 16 = .ok (.new 16, 3) := by decide +kernel
theorem d_Clk_init_19 : decode c_Clk_init 19 = .ok (.dup, 1) := by decide +kernel
theorem d_Clk_init_20 : decode c_Clk_init 20 = .ok (.invokespecial 18, 3) := by decide +kernel
theorem d_Clk_init_23 : decode c_Clk_init 23 = .ok (.putfield 19, 3) := by decide +kernel
theorem d_Clk_init_26 : decode c_Clk_init 26 = .ok (.aload_n 0, 1) := by decide +kernel
theorem d_Clk_init_27 : decode c_Clk_init 27 = .ok (.bipush 8, 2) := by decide +kernel
theorem d_Clk_init_29 : decode c_Clk_init 29 = .ok (.anewarray 16, 3) := by decide +kernel
theorem d_Clk_init_32 : decode c_Clk_init 32 = .ok (.putfield 23, 3) := by decide +kernel
theorem d_Clk_init_35 : decode c_Clk_init 35 = .ok (.iconst 0, 1) := by decide +kernel
theorem d_Clk_init_36 : decode c_Clk_init 36 = .ok (.istore_n 1, 1) := by decide +kernel
theorem d_Clk_init_37 : decode c_Clk_init 37 = .ok (.iload_n 1, 1) := by decide +kernel
theorem d_Clk_init_38 : decode c_Clk_init 38 = .ok (.bipush 8, 2) := by decide +kernel
theorem d_Clk_init_40 : decode c_Clk_init 40 = .ok (.if_icmp .ge 22, 3) := by decide +kernel
theorem d_Clk_init_43 : decode c_Clk_init 43 = .ok (.aload_n 0, 1) := by decide +kernel
theorem d_Clk_init_44 : decode c_Clk_init 44 = .ok (.getfield 23, 3) := by decide +kernel
theorem d_Clk_init_47 : decode c_Clk_init 47 = .ok (.iload_n 1, 1) := by decide +kernel
theorem d_Clk_init_48 : decode c_Clk_init 48 = .ok (.new 16, 3) := by decide +kernel
theorem d_Clk_init_51 : decode c_Clk_init 51 = .ok (.dup, 1) := by decide +kernel
theorem d_Clk_init_52 : decode c_Clk_init 52 = .ok (.invokespecial 18, 3) := by decide +kernel
theorem d_Clk_init_55 : decode c_Clk_init 55 = .ok (.aastore, 1) := by decide +kernel
theorem d_Clk_init_56 : decode c_Clk_init 56 = .ok (.iinc 1 1, 3) := by decide +kernel
theorem d_Clk_init_59 : decode c_Clk_init 59 = .ok (.goto (-22), 3) := by decide +kernel
theorem d_Clk_init_62 : decode c_Clk_init 62 = .ok (.aload_n 0, 1) := by decide +kernel
theorem d_Clk_init_63 : decode c_Clk_init 63 = .ok (.iconst (-1), 1) := by decide +kernel
theorem d_Clk_init_64 : decode c_Clk_init 64 = .ok (.putfield 27, 3) := by decide +kernel
theorem d_Clk_init_67 : decode c_Clk_init 67 = .ok (.return_, 1) := by decide +kernel
theorem d_Tape_init_0 : decode c_Tape_init 0 = .ok (.aload_n 0, 1) := by decide +kernel
theorem d_Tape_init_1 : decode c_Tape_init 1 = .ok (.invokespecial 3, 3) := by decide +kernel
theorem d_Tape_init_4 : decode c_Tape_init 4 = .ok (.aload_n 0, 1) := by decide +kernel
theorem d_Tape_init_5 : decode c_Tape_init 5 = .ok (.sipush 400, 3) := by decide +kernel
theorem d_Tape_init_8 : decode c_Tape_init 8 = .ok (.newarray .byte, 2) := by decide +kernel
theorem d_Tape_init_10 : decode c_Tape_init 10 = .ok (.putfield 9, 3) := by decide +kernel
theorem d_Tape_init_13 : decode c_Tape_init 13 = .ok (.return_, 1) := by decide +kernel
theorem d_Zone_init_0 : decode c_Zone_init 0 = .ok (.aload_n 0, 1) := by decide +kernel
theorem d_Zone_init_1 : decode c_Zone_init 1 = .ok (.invokespecial 3, 3) := by decide +kernel
theorem d_Zone_init_4 : decode c_Zone_init 4 = .ok (.aload_n 0, 1) := by decide +kernel
theorem d_Zone_init_5 : decode c_Zone_init 5 = .ok (.new 9, 3) := by decide +kernel
theorem d_Zone_init_8 : decode c_Zone_init 8 = .ok (.dup, 1) := by decide +kernel
theorem d_Zone_init_9 : decode c_Zone_init 9 = .ok (.invokespecial 11, 3) := by decide +kernel
theorem d_Zone_init_12 : decode c_Zone_init 12 = .ok (.putfield 12, 3) := by decide +kernel
theorem d_Zone_init_15 : decode c_Zone_init 15 = .ok (.aload_n 0, 1) := by decide +kernel
theorem d_Zone_init_16 : decode c_Zone_init 16 = .ok (.new 9, 3) := by decide +kernel
theorem d_Zone_init_19 : decode c_Zone_init 19 = .ok (.dup, 1) := by decide +kernel
theorem d_Zone_init_20 : decode c_Zone_init 20 = .ok (.invokespecial 11, 3) := by decide +kernel
theorem d_Zone_init_23 : decode c_Zone_init 23 = .ok (.putfield 18, 3) := by decide +kernel
theorem d_Zone_init_26 : decode c_Zone_init 26 = .ok (.return_, 1) := by decide +kernel
theorem d_Rule_init_0 : decode c_Rule_init 0 = .ok (.aload_n 0, 1) := by decide +kernel
theorem d_Rule_init_1 : decode c_Rule_init 1 = .ok (.invokespecial 3, 3) := by decide +kernel
theorem d_Rule_init_4 : decode c_Rule_init 4 = .ok (.return_, 1) := by decide +kernel
theorem d_Clk_place_0 : decode c_Clk_place 0 = .ok (.aload_n 0, 1) := by decide +kernel
theorem d_Clk_place_1 : decode c_Clk_place 1 = .ok (.getfield 27, 3) := by decide +kernel
theorem d_Clk_place_4 : decode c_Clk_place 4 = .ok (.ireturn, 1) := by decide +kernel
theorem d_Clk_feed_0 : decode c_Clk_feed 0 = .ok (.aload_n 0, 1) := by decide +kernel
theorem d_Clk_feed_1 : decode c_Clk_feed 1 = .ok (.getfield 10, 3) := by decide +kernel
theorem d_Clk_feed_4 : decode c_Clk_feed 4 = .ok (.getfield 31, 3) := by decide +kernel
theorem d_Clk_feed_7 : decode c_Clk_feed 7 = .ok (.sipush 380, 3) := by decide +kernel
theorem d_Clk_feed_10 : decode c_Clk_feed 10 = .ok (.if_icmp .le 11, 3) := by decide +kernel
theorem d_Clk_feed_13 : decode c_Clk_feed 13 = .ok (.new 34, 3) := by decide +kernel
theorem d_Clk_feed_16 : decode c_Clk_feed 16 = .ok (.dup, 1) := by decide +kernel
theorem d_Clk_feed_17 : decode c_Clk_feed 17 = .ok (.invokespecial 36, 3) := by decide +kernel
theorem d_Clk_feed_20 : decode c_Clk_feed 20 = .ok (.athrow, 1) := by decide +kernel
theorem d_Clk_feed_21 : decode c_Clk_feed 21 = .ok (.aload_n 0, 1) := by decide +kernel
theorem d_Clk_feed_22 : decode c_Clk_feed 22 = .ok (.getfield 10, 3) := by decide +kernel
theorem d_Clk_feed_25 : decode c_Clk_feed 25 = .ok (.iload_n 1, 1) := by decide +kernel
theorem d_Clk_feed_26 : decode c_Clk_feed 26 = .ok (.invokevirtual 37, 3) := by decide +kernel
theorem d_Clk_feed_29 : decode c_Clk_feed 29 = .ok (.aload_n 0, 1) := by decide +kernel
theorem d_Clk_feed_30 : decode c_Clk_feed 30 = .ok (.getfield 10, 3) := by decide +kernel
theorem d_Clk_feed_33 : decode c_Clk_feed 33 = .ok (.iload_n 2, 1) := by decide +kernel
theorem d_Clk_feed_34 : decode c_Clk_feed 34 = .ok (.invokevirtual 37, 3) := by decide +kernel
theorem d_Clk_feed_37 : decode c_Clk_feed 37 = .ok (.aload_n 0, 1) := by decide +kernel
theorem d_Clk_feed_38 : decode c_Clk_feed 38 = .ok (.getfield 10, 3) := by decide +kernel
theorem d_Clk_feed_41 : decode c_Clk_feed 41 = .ok (.iload_n 3, 1) := by decide +kernel
theorem d_Clk_feed_42 : decode c_Clk_feed 42 = .ok (.invokevirtual 37, 3) := by decide +kernel
theorem d_Clk_feed_45 : decode c_Clk_feed 45 = .ok (.aload_n 0, 1) := by decide +kernel
theorem d_Clk_feed_46 : decode c_Clk_feed 46 = .ok (.getfield 10, 3) := by decide +kernel
theorem d_Clk_feed_49 : decode c_Clk_feed 49 = .ok (.iload 4, 2) := by decide +kernel
theorem d_Clk_feed_51 : decode c_Clk_feed 51 = .ok (.invokevirtual 37, 3) := by decide +kernel
theorem d_Clk_feed_54 : decode c_Clk_feed 54 = .ok (.aload_n 0, 1) := by decide +kernel
theorem d_Clk_feed_55 : decode c_Clk_feed 55 = .ok (.getfield 10, 3) := by decide +kernel
theorem d_Clk_feed_58 : decode c_Clk_feed 58 = .ok (.iload 5, 2) := by decide +kernel
theorem d_Clk_feed_60 : decode c_Clk_feed 60 = .ok (.invokevirtual 37, 3) := by decide +kernel
theorem d_Clk_feed_63 : decode c_Clk_feed 63 = .ok (.aload_n 0, 1) := by decide +kernel
theorem d_Clk_feed_64 : decode c_Clk_feed 64 = .ok (.getfield 10, 3) := by decide +kernel
theorem d_Clk_feed_67 : decode c_Clk_feed 67 = .ok (.getfield 31, 3) := by decide +kernel
theorem d_Clk_feed_70 : decode c_Clk_feed 70 = .ok (.ireturn, 1) := by decide +kernel
theorem d_Tape_append_0 : decode c_Tape_append 0 = .ok (.bipush 24, 2) := by decide +kernel
theorem d_Tape_append_2 : decode c_Tape_append 2 = .ok (.istore_n 2, 1) := by decide +kernel
theorem d_Tape_append_3 : decode c_Tape_append 3 = .ok (.iload_n 2, 1) := by decide +kernel
theorem d_Tape_append_4 : decode c_Tape_append 4 = .ok (.ifCond .lt 44, 3) := by decide +kernel
theorem d_Tape_append_7 : decode c_Tape_append 7 = .ok (.aload_n 0, 1) := by decide +kernel
theorem d_Tape_append_8 : decode c_Tape_append 8 = .ok (.getfield 15, 3) := by decide +kernel
theorem d_Tape_append_11 : decode c_Tape_append 11 = .ok (.aload_n 0, 1) := by decide +kernel
theorem d_Tape_append_12 : decode c_Tape_append 12 = .ok (.getfield 9, 3) := by decide +kernel
theorem d_Tape_append_15 : decode c_Tape_append 15 = .ok (.arraylength, 1) := by decide +kernel
theorem d_Tape_append_16 : decode c_Tape_append 16 = .ok (.if_icmp .ge 32, 3) := by decide +kernel
theorem d_Tape_append_19 : decode c_Tape_append 19 = .ok (.aload_n 0, 1) := by decide +kernel
theorem d_Tape_append_20 : decode c_Tape_append 20 = .ok (.getfield 9, 3) := by decide +kernel
theorem d_Tape_append_23 : decode c_Tape_append 23 = .ok (.aload_n 0, 1) := by decide +kernel
theorem d_Tape_append_24 : decode c_Tape_append 24 = .ok (.getfield 15, 3) := by decide +kernel
theorem d_Tape_append_27 : decode c_Tape_append 27 = .ok (.iload_n 1, 1) := by decide +kernel
theorem d_Tape_append_28 : decode c_Tape_append 28 = .ok (.iload_n 2, 1) := by decide +kernel
theorem d_Tape_append_29 : decode c_Tape_append 29 = .ok (.ishr, 1) := by decide +kernel
theorem d_Tape_append_30 : decode c_Tape_append 30 = .ok (.i2b, 1) := by decide +kernel
theorem d_Tape_append_31 : decode c_Tape_append 31 = .ok (.bastore, 1) := by decide +kernel
theorem d_Tape_append_32 : decode c_Tape_append 32 = .ok (.aload_n 0, 1) := by decide +kernel
theorem d_Tape_append_33 : decode c_Tape_append 33 = .ok (.dup, 1) := by decide +kernel
theorem d_Tape_append_34 : decode c_Tape_append 34 = .ok (.getfield 15, 3) := by decide +kernel
theorem d_Tape_append_37 : decode c_Tape_append 37 = .ok (.iconst 1, 1) := by decide +kernel
theorem d_Tape_append_38 : decode c_Tape_append 38 = .ok (.iadd, 1) := by decide +kernel
theorem d_Tape_append_39 : decode c_Tape_append 39 = .ok (.putfield 15, 3) := by decide +kernel
theorem d_Tape_append_42 : decode c_Tape_append 42 = .ok (.iinc 2 (-8), 3) := by decide +kernel
theorem d_Tape_append_45 : decode c_Tape_append 45 = .ok (.goto (-42), 3) := by decide +kernel
theorem d_Tape_append_48 : decode c_Tape_append 48 = .ok (.return_, 1) := by decide +kernel
theorem d_Clk_end_0 : decode c_Clk_end 0 = .ok (.iload_n 1, 1) := by decide +kernel
theorem d_Clk_end_1 : decode c_Clk_end 1 = .ok (.ifCond .lt 14, 3) := by decide +kernel
theorem d_Clk_end_4 : decode c_Clk_end 4 = .ok (.iload_n 1, 1) := by decide +kernel
theorem d_Clk_end_5 : decode c_Clk_end 5 = .ok (.aload_n 0, 1) := by decide +kernel
theorem d_Clk_end_6 : decode c_Clk_end 6 = .ok (.getfield 10, 3) := by decide +kernel
theorem d_Clk_end_9 : decode c_Clk_end 9 = .ok (.getfield 31, 3) := by decide +kernel
theorem d_Clk_end_12 : decode c_Clk_end 12 = .ok (.if_icmp .le 11, 3) := by decide +kernel
theorem d_Clk_end_15 : decode c_Clk_end 15 = .ok (.new 41, 3) := by decide +kernel
theorem d_Clk_end_18 : decode c_Clk_end 18 = .ok (.dup, 1) := by decide +kernel
theorem d_Clk_end_19 : decode c_Clk_end 19 = .ok (.invokespecial 43, 3) := by decide +kernel
theorem d_Clk_end_22 : decode c_Clk_end 22 = .ok (.athrow, 1) := by decide +kernel
theorem d_Clk_end_23 : decode c_Clk_end 23 = .ok (.aload_n 0, 1) := by decide +kernel
theorem d_Clk_end_24 : decode c_Clk_end 24 = .ok (.getfield 10, 3) := by decide +kernel
theorem d_Clk_end_27 : decode c_Clk_end 27 = .ok (.iload_n 1, 1) := by decide +kernel
theorem d_Clk_end_28 : decode c_Clk_end 28 = .ok (.putfield 31, 3) := by decide +kernel
theorem d_Clk_end_31 : decode c_Clk_end 31 = .ok (.iload_n 1, 1) := by decide +kernel
theorem d_Clk_end_32 : decode c_Clk_end 32 = .ok (.ireturn, 1) := by decide +kernel
theorem d_Clk_zone_0 : decode c_Clk_zone 0 = .ok (.aload_n 0, 1) := by decide +kernel
theorem d_Clk_zone_1 : decode c_Clk_zone 1 = .ok (.iload_n 1, 1) := by decide +kernel
theorem d_Clk_zone_2 : decode c_Clk_zone 2 = .ok (.invokevirtual 44, 3) := by decide +kernel
theorem d_Clk_zone_5 : decode c_Clk_zone 5 = .ok (.astore_n 2, 1) := by decide +kernel
theorem d_Clk_zone_6 : decode c_Clk_zone 6 = .ok (.aload_n 0, 1) := by decide +kernel
theorem d_Clk_zone_7 : decode c_Clk_zone 7 = .ok (.aload_n 0, 1) := by decide +kernel
theorem d_Clk_zone_8 : decode c_Clk_zone 8 = .ok (.getfield 10, 3) := by decide +kernel
theorem d_Clk_zone_11 : decode c_Clk_zone 11 = .ok (.aload_n 0, 1) := by decide +kernel
theorem d_Clk_zone_12 : decode c_Clk_zone 12 = .ok (.getfield 19, 3) := by decide +kernel
theorem d_Clk_zone_15 : decode c_Clk_zone 15 = .ok (.invokevirtual 48, 3) := by decide +kernel
theorem d_Clk_zone_18 : decode c_Clk_zone 18 = .ok (.putfield 27, 3) := by decide +kernel
theorem d_Clk_zone_21 : decode c_Clk_zone 21 = .ok (.aload_n 0, 1) := by decide +kernel
theorem d_Clk_zone_22 : decode c_Clk_zone 22 = .ok (.getfield 10, 3) := by decide +kernel
theorem d_Clk_zone_25 : decode c_Clk_zone 25 = .ok (.iconst 0, 1) := by decide +kernel
theorem d_Clk_zone_26 : decode c_Clk_zone 26 = .ok (.putfield 31, 3) := by decide +kernel
theorem d_Clk_zone_29 : decode c_Clk_zone 29 = .ok (.aload_n 0, 1) := by decide +kernel
theorem d_Clk_zone_30 : decode c_Clk_zone 30 = .ok (.getfield 27, 3) := by decide +kernel
theorem d_Clk_zone_33 : decode c_Clk_zone 33 = .ok (.iconst (-1), 1) := by decide +kernel
theorem d_Clk_zone_34 : decode c_Clk_zone 34 = .ok (.if_icmp .eq 11, 3) := by decide +kernel
theorem d_Clk_zone_37 : decode c_Clk_zone 37 = .ok (.new 52, 3) := by decide +kernel
theorem d_Clk_zone_40 : decode c_Clk_zone 40 = .ok (.dup, 1) := by decide +kernel
theorem d_Clk_zone_41 : decode c_Clk_zone 41 = .ok (.invokespecial 54, 3) := by decide +kernel
theorem d_Clk_zone_44 : decode c_Clk_zone 44 = .ok (.athrow, 1) := by decide +kernel
theorem d_Clk_zone_45 : decode c_Clk_zone 45 = .ok (.aload_n 2, 1) := by decide +kernel
theorem d_Clk_zone_46 : decode c_Clk_zone 46 = .ok (.aload_n 0, 1) := by decide +kernel
theorem d_Clk_zone_47 : decode c_Clk_zone 47 = .ok (.getfield 19, 3) := by decide +kernel
theorem d_Clk_zone_50 : decode c_Clk_zone 50 = .ok (.invokevirtual 55, 3) := by decide +kernel
theorem d_Clk_zone_53 : decode c_Clk_zone 53 = .ok (.return_, 1) := by decide +kernel
theorem d_Clk_zoneAt_0 : decode c_Clk_zoneAt 0 = .ok (.iload_n 1, 1) := by decide +kernel
theorem d_Clk_zoneAt_1 : decode c_Clk_zoneAt 1 = .ok (.ifCond .lt 12, 3) := by decide +kernel
theorem d_Clk_zoneAt_4 : decode c_Clk_zoneAt 4 = .ok (.iload_n 1, 1) := by decide +kernel
theorem d_Clk_zoneAt_5 : decode c_Clk_zoneAt 5 = .ok (.aload_n 0, 1) := by decide +kernel
theorem d_Clk_zoneAt_6 : decode c_Clk_zoneAt 6 = .ok (.getfield 23, 3) := by decide +kernel
theorem d_Clk_zoneAt_9 : decode c_Clk_zoneAt 9 = .ok (.arraylength, 1) := by decide +kernel
theorem d_Clk_zoneAt_10 : decode c_Clk_zoneAt 10 = .ok (.if_icmp .lt 11, 3) := by decide +kernel
theorem d_Clk_zoneAt_13 : decode c_Clk_zoneAt 13 = .ok (.new 41, 3) := by decide +kernel
theorem d_Clk_zoneAt_16 : decode c_Clk_zoneAt 16 = .ok (.dup, 1) := by decide +kernel
theorem d_Clk_zoneAt_17 : decode c_Clk_zoneAt 17 = .ok (.invokespecial 43, 3) := by decide +kernel
theorem d_Clk_zoneAt_20 : decode c_Clk_zoneAt 20 = .ok (.athrow, 1) := by decide +kernel
theorem d_Clk_zoneAt_21 : decode c_Clk_zoneAt 21 = .ok (.aload_n 0, 1) := by decide +kernel
theorem d_Clk_zoneAt_22 : decode c_Clk_zoneAt 22 = .ok (.getfield 23, 3) := by decide +kernel
theorem d_Clk_zoneAt_25 : decode c_Clk_zoneAt 25 = .ok (.iload_n 1, 1) := by decide +kernel
theorem d_Clk_zoneAt_26 : decode c_Clk_zoneAt 26 = .ok (.aaload, 1) := by decide +kernel
theorem d_Clk_zoneAt_27 : decode c_Clk_zoneAt 27 = .ok (.areturn, 1) := by decide +kernel
theorem d_Tape_readZone_0 : decode c_Tape_readZone 0 = .ok (.aload_n 0, 1) := by decide +kernel
theorem d_Tape_readZone_1 : decode c_Tape_readZone 1 = .ok (.iconst 0, 1) := by decide +kernel
theorem d_Tape_readZone_2 : decode c_Tape_readZone 2 = .ok (.putfield 19, 3) := by decide +kernel
theorem d_Tape_readZone_5 : decode c_Tape_readZone 5 = .ok (.aload_n 0, 1) := by decide +kernel
theorem d_Tape_readZone_6 : decode c_Tape_readZone 6 = .ok (.iconst 0, 1) := by decide +kernel
theorem d_Tape_readZone_7 : decode c_Tape_readZone 7 = .ok (.putfield 22, 3) := by decide +kernel
theorem d_Tape_readZone_10 : decode c_Tape_readZone 10 = .ok (.aload_n 1, 1) := by decide +kernel
theorem d_Tape_readZone_11 : decode c_Tape_readZone 11 = .ok (.aload_n 0, 1) := by decide +kernel
theorem d_Tape_readZone_12 : decode c_Tape_readZone 12 = .ok (.invokevirtual 26, 3) := by decide +kernel
theorem d_Tape_readZone_15 : decode c_Tape_readZone 15 = .ok (.putfield 30, 3) := by decide +kernel
theorem d_Tape_readZone_18 : decode c_Tape_readZone 18 = .ok (.aload_n 1, 1) := by decide +kernel
theorem d_Tape_readZone_19 : decode c_Tape_readZone 19 = .ok (.iconst 0, 1) := by decide +kernel
theorem d_Tape_readZone_20 : decode c_Tape_readZone 20 = .ok (.putfield 35, 3) := by decide +kernel
theorem d_Tape_readZone_23 : decode c_Tape_readZone 23 = .ok (.aload_n 0, 1) := by decide +kernel
theorem d_Tape_readZone_24 : decode c_Tape_readZone 24 = .ok (.getfield 19, 3) := by decide +kernel
theorem d_Tape_readZone_27 : decode c_Tape_readZone 27 = .ok (.aload_n 0, 1) := by decide +kernel
theorem d_Tape_readZone_28 : decode c_Tape_readZone 28 = .ok (.getfield 15, 3) := by decide +kernel
theorem d_Tape_readZone_31 : decode c_Tape_readZone 31 = .ok (.if_icmp .ge 42, 3) := by decide +kernel
theorem d_Tape_readZone_34 : decode c_Tape_readZone 34 = .ok (.aload_n 0, 1) := by decide +kernel
theorem d_Tape_readZone_35 : decode c_Tape_readZone 35 = .ok (.invokevirtual 38, 3) := by decide +kernel
theorem d_Tape_readZone_38 : decode c_Tape_readZone 38 = .ok (.aload_n 1, 1) := by decide +kernel
theorem d_Tape_readZone_39 : decode c_Tape_readZone 39 = .ok (.aload_n 0, 1) := by decide +kernel
theorem d_Tape_readZone_40 : decode c_Tape_readZone 40 = .ok (.iconst 1, 1) := by decide +kernel
theorem d_Tape_readZone_41 : decode c_Tape_readZone 41 = .ok (.bipush 120, 2) := by decide +kernel
theorem d_Tape_readZone_43 : decode c_Tape_readZone 43 = .ok (.invokevirtual 41, 3) := by decide +kernel
theorem d_Tape_readZone_46 : decode c_Tape_readZone 46 = .ok (.putfield 35, 3) := by decide +kernel
theorem d_Tape_readZone_49 : decode c_Tape_readZone 49 = .ok (.aload_n 0, 1) := by decide +kernel
theorem d_Tape_readZone_50 : decode c_Tape_readZone 50 = .ok (.invokevirtual 38, 3) := by decide +kernel
theorem d_Tape_readZone_53 : decode c_Tape_readZone 53 = .ok (.aload_n 0, 1) := by decide +kernel
theorem d_Tape_readZone_54 : decode c_Tape_readZone 54 = .ok (.aload_n 1, 1) := by decide +kernel
theorem d_Tape_readZone_55 : decode c_Tape_readZone 55 = .ok (.getfield 45, 3) := by decide +kernel
theorem d_Tape_readZone_58 : decode c_Tape_readZone 58 = .ok (.invokevirtual 49, 3) := by decide +kernel
theorem d_Tape_readZone_61 : decode c_Tape_readZone 61 = .ok (.aload_n 0, 1) := by decide +kernel
theorem d_Tape_readZone_62 : decode c_Tape_readZone 62 = .ok (.invokevirtual 38, 3) := by decide +kernel
theorem d_Tape_readZone_65 : decode c_Tape_readZone 65 = .ok (.aload_n 0, 1) := by decide +kernel
theorem d_Tape_readZone_66 : decode c_Tape_readZone 66 = .ok (.aload_n 1, 1) := by decide +kernel
theorem d_Tape_readZone_67 : decode c_Tape_readZone 67 = .ok (.getfield 53, 3) := by decide +kernel
theorem d_Tape_readZone_70 : decode c_Tape_readZone 70 = .ok (.invokevirtual 49, 3) := by decide +kernel
theorem d_Tape_readZone_73 : decode c_Tape_readZone 73 = .ok (.aload_n 0, 1) := by decide +kernel
theorem d_Tape_readZone_74 : decode c_Tape_readZone 74 = .ok (.getfield 19, 3) := by decide +kernel
theorem d_Tape_readZone_77 : decode c_Tape_readZone 77 = .ok (.aload_n 0, 1) := by decide +kernel
theorem d_Tape_readZone_78 : decode c_Tape_readZone 78 = .ok (.getfield 15, 3) := by decide +kernel
theorem d_Tape_readZone_81 : decode c_Tape_readZone 81 = .ok (.if_icmp .ge 8, 3) := by decide +kernel
theorem d_Tape_readZone_84 : decode c_Tape_readZone 84 = .ok (.aload_n 0, 1) := by decide +kernel
theorem d_Tape_readZone_85 : decode c_Tape_readZone 85 = .ok (.iconst 1, 1) := by decide +kernel
theorem d_Tape_readZone_86 : decode c_Tape_readZone 86 = .ok (.putfield 22, 3) := by decide +kernel
theorem d_Tape_readZone_89 : decode c_Tape_readZone 89 = .ok (.aload_n 0, 1) := by decide +kernel
theorem d_Tape_readZone_90 : decode c_Tape_readZone 90 = .ok (.getfield 22, 3) := by decide +kernel
theorem d_Tape_readZone_93 : decode c_Tape_readZone 93 = .ok (.ifCond .eq 10, 3) := by decide +kernel
theorem d_Tape_readZone_96 : decode c_Tape_readZone 96 = .ok (.aload_n 0, 1) := by decide +kernel
theorem d_Tape_readZone_97 : decode c_Tape_readZone 97 = .ok (.getfield 19, 3) := by decide +kernel
theorem d_Tape_readZone_100 : decode c_Tape_readZone 100 = .ok (.goto 4, 3) := by decide +kernel
theorem d_Tape_readZone_103 : decode c_Tape_readZone 103 = .ok (.iconst (-1), 1) := by decide +kernel
theorem d_Tape_readZone_104 : decode c_Tape_readZone 104 = .ok (.ireturn, 1) := by decide +kernel
theorem d_Tape_readOffset_0 : decode c_Tape_readOffset 0 = .ok (.aload_n 0, 1) := by decide +kernel
theorem d_Tape_readOffset_1 : decode c_Tape_readOffset 1 = .ok (.invokevirtual 56, 3) := by decide +kernel
theorem d_Tape_readOffset_4 : decode c_Tape_readOffset 4 = .ok (.bipush 45, 2) := by decide +kernel
theorem d_Tape_readOffset_6 : decode c_Tape_readOffset 6 = .ok (.if_icmp .ne 7, 3) := by decide +kernel
theorem d_Tape_readOffset_9 : decode c_Tape_readOffset 9 = .ok (.iconst 1, 1) := by decide +kernel
theorem d_Tape_readOffset_10 : decode c_Tape_readOffset 10 = .ok (.goto 4, 3) := by decide +kernel
theorem d_Tape_readOffset_13 : decode c_Tape_readOffset 13 = .ok (.iconst 0, 1) := by decide +kernel
theorem d_Tape_readOffset_14 : decode c_Tape_readOffset 14 = .ok (.istore_n 1, 1) := by decide +kernel
theorem d_Tape_readOffset_15 : decode c_Tape_readOffset 15 = .ok (.aload_n 0, 1) := by decide +kernel
theorem d_Tape_readOffset_16 : decode c_Tape_readOffset 16 = .ok (.iload_n 1, 1) := by decide +kernel
theorem d_Tape_readOffset_17 : decode c_Tape_readOffset 17 = .ok (.ifCond .eq 8, 3) := by decide +kernel
theorem d_Tape_readOffset_20 : decode c_Tape_readOffset 20 = .ok (.bipush 45, 2) := by decide +kernel
theorem d_Tape_readOffset_22 : decode c_Tape_readOffset 22 = .ok (.goto 5, 3) := by decide +kernel
theorem d_Tape_readOffset_25 : decode c_Tape_readOffset 25 = .ok (.bipush 43, 2) := by decide +kernel
theorem d_Tape_readOffset_27 : decode c_Tape_readOffset 27 = .ok (.invokevirtual 59, 3) := by decide +kernel
theorem d_Tape_readOffset_30 : decode c_Tape_readOffset 30 = .ok (.aload_n 0, 1) := by decide +kernel
theorem d_Tape_readOffset_31 : decode c_Tape_readOffset 31 = .ok (.iconst 0, 1) := by decide +kernel
theorem d_Tape_readOffset_32 : decode c_Tape_readOffset 32 = .ok (.sipush 840, 3) := by decide +kernel
theorem d_Tape_readOffset_35 : decode c_Tape_readOffset 35 = .ok (.invokevirtual 41, 3) := by decide +kernel
theorem d_Tape_readOffset_38 : decode c_Tape_readOffset 38 = .ok (.istore_n 2, 1) := by decide +kernel
theorem d_Tape_readOffset_39 : decode c_Tape_readOffset 39 = .ok (.iload_n 1, 1) := by decide +kernel
theorem d_Tape_readOffset_40 : decode c_Tape_readOffset 40 = .ok (.ifCond .eq 8, 3) := by decide +kernel
theorem d_Tape_readOffset_43 : decode c_Tape_readOffset 43 = .ok (.iload_n 2, 1) := by decide +kernel
theorem d_Tape_readOffset_44 : decode c_Tape_readOffset 44 = .ok (.ineg, 1) := by decide +kernel
theorem d_Tape_readOffset_45 : decode c_Tape_readOffset 45 = .ok (.goto 4, 3) := by decide +kernel
theorem d_Tape_readOffset_48 : decode c_Tape_readOffset 48 = .ok (.iload_n 2, 1) := by decide +kernel
theorem d_Tape_readOffset_49 : decode c_Tape_readOffset 49 = .ok (.ireturn, 1) := by decide +kernel
theorem d_Tape_nextByte_0 : decode c_Tape_nextByte 0 = .ok (.aload_n 0, 1) := by decide +kernel
theorem d_Tape_nextByte_1 : decode c_Tape_nextByte 1 = .ok (.getfield 19, 3) := by decide +kernel
theorem d_Tape_nextByte_4 : decode c_Tape_nextByte 4 = .ok (.ifCond .lt 26, 3) := by decide +kernel
theorem d_Tape_nextByte_7 : decode c_Tape_nextByte 7 = .ok (.aload_n 0, 1) := by decide +kernel
theorem d_Tape_nextByte_8 : decode c_Tape_nextByte 8 = .ok (.getfield 19, 3) := by decide +kernel
theorem d_Tape_nextByte_11 : decode c_Tape_nextByte 11 = .ok (.aload_n 0, 1) := by decide +kernel
theorem d_Tape_nextByte_12 : decode c_Tape_nextByte 12 = .ok (.getfield 15, 3) := by decide +kernel
theorem d_Tape_nextByte_15 : decode c_Tape_nextByte 15 = .ok (.if_icmp .ge 15, 3) := by decide +kernel
theorem d_Tape_nextByte_18 : decode c_Tape_nextByte 18 = .ok (.aload_n 0, 1) := by decide +kernel
theorem d_Tape_nextByte_19 : decode c_Tape_nextByte 19 = .ok (.getfield 19, 3) := by decide +kernel
theorem d_Tape_nextByte_22 : decode c_Tape_nextByte 22 = .ok (.aload_n 0, 1) := by decide +kernel
theorem d_Tape_nextByte_23 : decode c_Tape_nextByte 23 = .ok (.getfield 9, 3) := by decide +kernel
theorem d_Tape_nextByte_26 : decode c_Tape_nextByte 26 = .ok (.arraylength, 1) := by decide +kernel
theorem d_Tape_nextByte_27 : decode c_Tape_nextByte 27 = .ok (.if_icmp .lt 5, 3) := by decide +kernel
theorem d_Tape_nextByte_30 : decode c_Tape_nextByte 30 = .ok (.iconst (-1), 1) := by decide +kernel
theorem d_Tape_nextByte_31 : decode c_Tape_nextByte 31 = .ok (.ireturn, 1) := by decide +kernel
theorem d_Tape_nextByte_32 : decode c_Tape_nextByte 32 = .ok (.aload_n 0, 1) := by decide +kernel
theorem d_Tape_nextByte_33 : decode c_Tape_nextByte 33 = .ok (.getfield 9, 3) := by decide +kernel
theorem d_Tape_nextByte_36 : decode c_Tape_nextByte 36 = .ok (.aload_n 0, 1) := by decide +kernel
theorem d_Tape_nextByte_37 : decode c_Tape_nextByte 37 = .ok (.getfield 19, 3) := by decide +kernel
theorem d_Tape_nextByte_40 : decode c_Tape_nextByte 40 = .ok (.baload, 1) := by decide +kernel
theorem d_Tape_nextByte_41 : decode c_Tape_nextByte 41 = .ok (.sipush 255, 3) := by decide +kernel
theorem d_Tape_nextByte_44 : decode c_Tape_nextByte 44 = .ok (.iand, 1) := by decide +kernel
theorem d_Tape_nextByte_45 : decode c_Tape_nextByte 45 = .ok (.ireturn, 1) := by decide +kernel
theorem d_Tape_readByte_0 : decode c_Tape_readByte 0 = .ok (.aload_n 0, 1) := by decide +kernel
theorem d_Tape_readByte_1 : decode c_Tape_readByte 1 = .ok (.getfield 22, 3) := by decide +kernel
theorem d_Tape_readByte_4 : decode c_Tape_readByte 4 = .ok (.ifCond .eq 4, 3) := by decide +kernel
theorem d_Tape_readByte_7 : decode c_Tape_readByte 7 = .ok (.return_, 1) := by decide +kernel
theorem d_Tape_readByte_8 : decode c_Tape_readByte 8 = .ok (.aload_n 0, 1) := by decide +kernel
theorem d_Tape_readByte_9 : decode c_Tape_readByte 9 = .ok (.invokevirtual 56, 3) := by decide +kernel
theorem d_Tape_readByte_12 : decode c_Tape_readByte 12 = .ok (.iload_n 1, 1) := by decide +kernel
theorem d_Tape_readByte_13 : decode c_Tape_readByte 13 = .ok (.if_icmp .ne 16, 3) := by decide +kernel
theorem d_Tape_readByte_16 : decode c_Tape_readByte 16 = .ok (.aload_n 0, 1) := by decide +kernel
theorem d_Tape_readByte_17 : decode c_Tape_readByte 17 = .ok (.dup, 1) := by decide +kernel
theorem d_Tape_readByte_18 : decode c_Tape_readByte 18 = .ok (.getfield 19, 3) := by decide +kernel
theorem d_Tape_readByte_21 : decode c_Tape_readByte 21 = .ok (.iconst 1, 1) := by decide +kernel
theorem d_Tape_readByte_22 : decode c_Tape_readByte 22 = .ok (.iadd, 1) := by decide +kernel
theorem d_Tape_readByte_23 : decode c_Tape_readByte 23 = .ok (.putfield 19, 3) := by decide +kernel
theorem d_Tape_readByte_26 : decode c_Tape_readByte 26 = .ok (.goto 8, 3) := by decide +kernel
theorem d_Tape_readByte_29 : decode c_Tape_readByte 29 = .ok (.aload_n 0, 1) := by decide +kernel
theorem d_Tape_readByte_30 : decode c_Tape_readByte 30 = .ok (.iconst 1, 1) := by decide +kernel
theorem d_Tape_readByte_31 : decode c_Tape_readByte 31 = .ok (.putfield 22, 3) := by decide +kernel
theorem d_Tape_readByte_34 : decode c_Tape_readByte 34 = .ok (.return_, 1) := by decide +kernel
theorem d_Tape_readNumber_0 : decode c_Tape_readNumber 0 = .ok (.aload_n 0, 1) := by decide +kernel
theorem d_Tape_readNumber_1 : decode c_Tape_readNumber 1 = .ok (.getfield 22, 3) := by decide +kernel
theorem d_Tape_readNumber_4 : decode c_Tape_readNumber 4 = .ok (.ifCond .eq 5, 3) := by decide +kernel
theorem d_Tape_readNumber_7 : decode c_Tape_readNumber 7 = .ok (.iconst 0, 1) := by decide +kernel
theorem d_Tape_readNumber_8 : decode c_Tape_readNumber 8 = .ok (.ireturn, 1) := by decide +kernel
theorem d_Tape_readNumber_9 : decode c_Tape_readNumber 9 = .ok (.aload_n 0, 1) := by decide +kernel
theorem d_Tape_readNumber_10 : decode c_Tape_readNumber 10 = .ok (.getfield 19, 3) := by decide +kernel
theorem d_Tape_readNumber_13 : decode c_Tape_readNumber 13 = .ok (.istore_n 3, 1) := by decide +kernel
theorem d_Tape_readNumber_14 : decode c_Tape_readNumber 14 = .ok (.aload_n 0, 1) := by decide +kernel
theorem d_Tape_readNumber_15 : decode c_Tape_readNumber 15 = .ok (.invokevirtual 77, 3) := by decide +kernel
theorem d_Tape_readNumber_18 : decode c_Tape_readNumber 18 = .ok (.istore 4, 2) := by decide +kernel
theorem d_Tape_readNumber_20 : decode c_Tape_readNumber 20 = .ok (.iload 4, 2) := by decide +kernel
theorem d_Tape_readNumber_22 : decode c_Tape_readNumber 22 = .ok (.iload_n 1, 1) := by decide +kernel
theorem d_Tape_readNumber_23 : decode c_Tape_readNumber 23 = .ok (.if_icmp .lt 9, 3) := by decide +kernel
theorem d_Tape_readNumber_26 : decode c_Tape_readNumber 26 = .ok (.iload 4, 2) := by decide +kernel
theorem d_Tape_readNumber_28 : decode c_Tape_readNumber 28 = .ok (.iload_n 2, 1) := by decide +kernel
theorem d_Tape_readNumber_29 : decode c_Tape_readNumber 29 = .ok (.if_icmp .le 13, 3) := by decide +kernel
theorem d_Tape_readNumber_32 : decode c_Tape_readNumber 32 = .ok (.aload_n 0, 1) := by decide +kernel
theorem d_Tape_readNumber_33 : decode c_Tape_readNumber 33 = .ok (.iload_n 3, 1) := by decide +kernel
theorem d_Tape_readNumber_34 : decode c_Tape_readNumber 34 = .ok (.putfield 19, 3) := by decide +kernel
theorem d_Tape_readNumber_37 : decode c_Tape_readNumber 37 = .ok (.aload_n 0, 1) := by decide +kernel
theorem d_Tape_readNumber_38 : decode c_Tape_readNumber 38 = .ok (.iconst 1, 1) := by decide +kernel
theorem d_Tape_readNumber_39 : decode c_Tape_readNumber 39 = .ok (.putfield 22, 3) := by decide +kernel
theorem d_Tape_readNumber_42 : decode c_Tape_readNumber 42 = .ok (.iload 4, 2) := by decide +kernel
theorem d_Tape_readNumber_44 : decode c_Tape_readNumber 44 = .ok (.ireturn, 1) := by decide +kernel
theorem d_Tape_readDigits_0 : decode c_Tape_readDigits 0 = .ok (.aload_n 0, 1) := by decide +kernel
theorem d_Tape_readDigits_1 : decode c_Tape_readDigits 1 = .ok (.invokevirtual 56, 3) := by decide +kernel
theorem d_Tape_readDigits_4 : decode c_Tape_readDigits 4 = .ok (.istore_n 1, 1) := by decide +kernel
theorem d_Tape_readDigits_5 : decode c_Tape_readDigits 5 = .ok (.iload_n 1, 1) := by decide +kernel
theorem d_Tape_readDigits_6 : decode c_Tape_readDigits 6 = .ok (.invokestatic 80, 3) := by decide +kernel
theorem d_Tape_readDigits_9 : decode c_Tape_readDigits 9 = .ok (.ifCond .ne 5, 3) := by decide +kernel
theorem d_Tape_readDigits_12 : decode c_Tape_readDigits 12 = .ok (.iconst (-1), 1) := by decide +kernel
theorem d_Tape_readDigits_13 : decode c_Tape_readDigits 13 = .ok (.ireturn, 1) := by decide +kernel
theorem d_Tape_readDigits_14 : decode c_Tape_readDigits 14 = .ok (.aload_n 0, 1) := by decide +kernel
theorem d_Tape_readDigits_15 : decode c_Tape_readDigits 15 = .ok (.dup, 1) := by decide +kernel
theorem d_Tape_readDigits_16 : decode c_Tape_readDigits 16 = .ok (.getfield 19, 3) := by decide +kernel
theorem d_Tape_readDigits_19 : decode c_Tape_readDigits 19 = .ok (.iconst 1, 1) := by decide +kernel
theorem d_Tape_readDigits_20 : decode c_Tape_readDigits 20 = .ok (.iadd, 1) := by decide +kernel
theorem d_Tape_readDigits_21 : decode c_Tape_readDigits 21 = .ok (.putfield 19, 3) := by decide +kernel
theorem d_Tape_readDigits_24 : decode c_Tape_readDigits 24 = .ok (.iload_n 1, 1) := by decide +kernel
theorem d_Tape_readDigits_25 : decode c_Tape_readDigits 25 = .ok (.bipush 48, 2) := by decide +kernel
theorem d_Tape_readDigits_27 : decode c_Tape_readDigits 27 = .ok (.isub, 1) := by decide +kernel
theorem d_Tape_readDigits_28 : decode c_Tape_readDigits 28 = .ok (.istore_n 2, 1) := by decide +kernel
theorem d_Tape_readDigits_29 : decode c_Tape_readDigits 29 = .ok (.iload_n 2, 1) := by decide +kernel
theorem d_Tape_readDigits_30 : decode c_Tape_readDigits 30 = .ok (.ifCond .le 55, 3) := by decide +kernel
theorem d_Tape_readDigits_33 : decode c_Tape_readDigits 33 = .ok (.aload_n 0, 1) := by decide +kernel
theorem d_Tape_readDigits_34 : decode c_Tape_readDigits 34 = .ok (.getfield 19, 3) := by decide +kernel
theorem d_Tape_readDigits_37 : decode c_Tape_readDigits 37 = .ok (.aload_n 0, 1) := by decide +kernel
theorem d_Tape_readDigits_38 : decode c_Tape_readDigits 38 = .ok (.getfield 15, 3) := by decide +kernel
theorem d_Tape_readDigits_41 : decode c_Tape_readDigits 41 = .ok (.if_icmp .ge 44, 3) := by decide +kernel
theorem d_Tape_readDigits_44 : decode c_Tape_readDigits 44 = .ok (.aload_n 0, 1) := by decide +kernel
theorem d_Tape_readDigits_45 : decode c_Tape_readDigits 45 = .ok (.invokevirtual 56, 3) := by decide +kernel
theorem d_Tape_readDigits_48 : decode c_Tape_readDigits 48 = .ok (.invokestatic 80, 3) := by decide +kernel
theorem d_Tape_readDigits_51 : decode c_Tape_readDigits 51 = .ok (.ifCond .eq 34, 3) := by decide +kernel
theorem d_Tape_readDigits_54 : decode c_Tape_readDigits 54 = .ok (.iload_n 2, 1) := by decide +kernel
theorem d_Tape_readDigits_55 : decode c_Tape_readDigits 55 = .ok (.bipush 10, 2) := by decide +kernel
theorem d_Tape_readDigits_57 : decode c_Tape_readDigits 57 = .ok (.imul, 1) := by decide +kernel
theorem d_Tape_readDigits_58 : decode c_Tape_readDigits 58 = .ok (.aload_n 0, 1) := by decide +kernel
theorem d_Tape_readDigits_59 : decode c_Tape_readDigits 59 = .ok (.invokevirtual 56, 3) := by decide +kernel
theorem d_Tape_readDigits_62 : decode c_Tape_readDigits 62 = .ok (.iadd, 1) := by decide +kernel
theorem d_Tape_readDigits_63 : decode c_Tape_readDigits 63 = .ok (.bipush 48, 2) := by decide +kernel
theorem d_Tape_readDigits_65 : decode c_Tape_readDigits 65 = .ok (.isub, 1) := by decide +kernel
theorem d_Tape_readDigits_66 : decode c_Tape_readDigits 66 = .ok (.ldc 84, 2) := by decide +kernel
theorem d_Tape_readDigits_68 : decode c_Tape_readDigits 68 = .ok (.invokestatic 85, 3) := by decide +kernel
theorem d_Tape_readDigits_71 : decode c_Tape_readDigits 71 = .ok (.istore_n 2, 1) := by decide +kernel
theorem d_Tape_readDigits_72 : decode c_Tape_readDigits 72 = .ok (.aload_n 0, 1) := by decide +kernel
theorem d_Tape_readDigits_73 : decode c_Tape_readDigits 73 = .ok (.dup, 1) := by decide +kernel
theorem d_Tape_readDigits_74 : decode c_Tape_readDigits 74 = .ok (.getfield 19, 3) := by decide +kernel
theorem d_Tape_readDigits_77 : decode c_Tape_readDigits 77 = .ok (.iconst 1, 1) := by decide +kernel
theorem d_Tape_readDigits_78 : decode c_Tape_readDigits 78 = .ok (.iadd, 1) := by decide +kernel
theorem d_Tape_readDigits_79 : decode c_Tape_readDigits 79 = .ok (.putfield 19, 3) := by decide +kernel
theorem d_Tape_readDigits_82 : decode c_Tape_readDigits 82 = .ok (.goto (-53), 3) := by decide +kernel
theorem d_Tape_readDigits_85 : decode c_Tape_readDigits 85 = .ok (.iload_n 2, 1) := by decide +kernel
theorem d_Tape_readDigits_86 : decode c_Tape_readDigits 86 = .ok (.ireturn, 1) := by decide +kernel
theorem d_Tape_isDigit_0 : decode c_Tape_isDigit 0 = .ok (.iload_n 0, 1) := by decide +kernel
theorem d_Tape_isDigit_1 : decode c_Tape_isDigit 1 = .ok (.bipush 48, 2) := by decide +kernel
theorem d_Tape_isDigit_3 : decode c_Tape_isDigit 3 = .ok (.if_icmp .lt 13, 3) := by decide +kernel
theorem d_Tape_isDigit_6 : decode c_Tape_isDigit 6 = .ok (.iload_n 0, 1) := by decide +kernel
theorem d_Tape_isDigit_7 : decode c_Tape_isDigit 7 = .ok (.bipush 57, 2) := by decide +kernel
theorem d_Tape_isDigit_9 : decode c_Tape_isDigit 9 = .ok (.if_icmp .gt 7, 3) := by decide +kernel
theorem d_Tape_isDigit_12 : decode c_Tape_isDigit 12 = .ok (.iconst 1, 1) := by decide +kernel
theorem d_Tape_isDigit_13 : decode c_Tape_isDigit 13 = .ok (.goto 4, 3) := by decide +kernel
theorem d_Tape_isDigit_16 : decode c_Tape_isDigit 16 = .ok (.iconst 0, 1) := by decide +kernel
theorem d_Tape_isDigit_17 : decode c_Tape_isDigit 17 = .ok (.ireturn, 1) := by decide +kernel
theorem d_Math_minI_0 : decode c_Math_minI 0 = .ok (.iload_n 0, 1) := by decide +kernel
theorem d_Math_minI_1 : decode c_Math_minI 1 = .ok (.iload_n 1, 1) := by decide +kernel
theorem d_Math_minI_2 : decode c_Math_minI 2 = .ok (.if_icmp .gt 7, 3) := by decide +kernel
theorem d_Math_minI_5 : decode c_Math_minI 5 = .ok (.iload_n 0, 1) := by decide +kernel
theorem d_Math_minI_6 : decode c_Math_minI 6 = .ok (.goto 4, 3) := by decide +kernel
theorem d_Math_minI_9 : decode c_Math_minI 9 = .ok (.iload_n 1, 1) := by decide +kernel
theorem d_Math_minI_10 : decode c_Math_minI 10 = .ok (.ireturn, 1) := by decide +kernel
theorem d_Tape_readBlanks_0 : decode c_Tape_readBlanks 0 = .ok (.aload_n 0, 1) := by decide +kernel
theorem d_Tape_readBlanks_1 : decode c_Tape_readBlanks 1 = .ok (.bipush 32, 2) := by decide +kernel
theorem d_Tape_readBlanks_3 : decode c_Tape_readBlanks 3 = .ok (.invokevirtual 59, 3) := by decide +kernel
theorem d_Tape_readBlanks_6 : decode c_Tape_readBlanks 6 = .ok (.aload_n 0, 1) := by decide +kernel
theorem d_Tape_readBlanks_7 : decode c_Tape_readBlanks 7 = .ok (.getfield 22, 3) := by decide +kernel
theorem d_Tape_readBlanks_10 : decode c_Tape_readBlanks 10 = .ok (.ifCond .ne 36, 3) := by decide +kernel
theorem d_Tape_readBlanks_13 : decode c_Tape_readBlanks 13 = .ok (.aload_n 0, 1) := by decide +kernel
theorem d_Tape_readBlanks_14 : decode c_Tape_readBlanks 14 = .ok (.getfield 19, 3) := by decide +kernel
theorem d_Tape_readBlanks_17 : decode c_Tape_readBlanks 17 = .ok (.aload_n 0, 1) := by decide +kernel
theorem d_Tape_readBlanks_18 : decode c_Tape_readBlanks 18 = .ok (.getfield 15, 3) := by decide +kernel
theorem d_Tape_readBlanks_21 : decode c_Tape_readBlanks 21 = .ok (.if_icmp .ge 25, 3) := by decide +kernel
theorem d_Tape_readBlanks_24 : decode c_Tape_readBlanks 24 = .ok (.aload_n 0, 1) := by decide +kernel
theorem d_Tape_readBlanks_25 : decode c_Tape_readBlanks 25 = .ok (.invokevirtual 56, 3) := by decide +kernel
theorem d_Tape_readBlanks_28 : decode c_Tape_readBlanks 28 = .ok (.bipush 32, 2) := by decide +kernel
theorem d_Tape_readBlanks_30 : decode c_Tape_readBlanks 30 = .ok (.if_icmp .ne 16, 3) := by decide +kernel
theorem d_Tape_readBlanks_33 : decode c_Tape_readBlanks 33 = .ok (.aload_n 0, 1) := by decide +kernel
theorem d_Tape_readBlanks_34 : decode c_Tape_readBlanks 34 = .ok (.dup, 1) := by decide +kernel
theorem d_Tape_readBlanks_35 : decode c_Tape_readBlanks 35 = .ok (.getfield 19, 3) := by decide +kernel
theorem d_Tape_readBlanks_38 : decode c_Tape_readBlanks 38 = .ok (.iconst 1, 1) := by decide +kernel
theorem d_Tape_readBlanks_39 : decode c_Tape_readBlanks 39 = .ok (.iadd, 1) := by decide +kernel
theorem d_Tape_readBlanks_40 : decode c_Tape_readBlanks 40 = .ok (.putfield 19, 3) := by decide +kernel
theorem d_Tape_readBlanks_43 : decode c_Tape_readBlanks 43 = .ok (.goto (-37), 3) := by decide +kernel
theorem d_Tape_readBlanks_46 : decode c_Tape_readBlanks 46 = .ok (.return_, 1) := by decide +kernel
theorem d_Tape_readRule_0 : decode c_Tape_readRule 0 = .ok (.aload_n 0, 1) := by decide +kernel
theorem d_Tape_readRule_1 : decode c_Tape_readRule 1 = .ok (.bipush 77, 2) := by decide +kernel
theorem d_Tape_readRule_3 : decode c_Tape_readRule 3 = .ok (.invokevirtual 59, 3) := by decide +kernel
theorem d_Tape_readRule_6 : decode c_Tape_readRule 6 = .ok (.aload_n 1, 1) := by decide +kernel
theorem d_Tape_readRule_7 : decode c_Tape_readRule 7 = .ok (.aload_n 0, 1) := by decide +kernel
theorem d_Tape_readRule_8 : decode c_Tape_readRule 8 = .ok (.iconst 1, 1) := by decide +kernel
theorem d_Tape_readRule_9 : decode c_Tape_readRule 9 = .ok (.bipush 12, 2) := by decide +kernel
theorem d_Tape_readRule_11 : decode c_Tape_readRule 11 = .ok (.invokevirtual 41, 3) := by decide +kernel
theorem d_Tape_readRule_14 : decode c_Tape_readRule 14 = .ok (.putfield 63, 3) := by decide +kernel
theorem d_Tape_readRule_17 : decode c_Tape_readRule 17 = .ok (.aload_n 0, 1) := by decide +kernel
theorem d_Tape_readRule_18 : decode c_Tape_readRule 18 = .ok (.bipush 46, 2) := by decide +kernel
theorem d_Tape_readRule_20 : decode c_Tape_readRule 20 = .ok (.invokevirtual 59, 3) := by decide +kernel
theorem d_Tape_readRule_23 : decode c_Tape_readRule 23 = .ok (.aload_n 1, 1) := by decide +kernel
theorem d_Tape_readRule_24 : decode c_Tape_readRule 24 = .ok (.aload_n 0, 1) := by decide +kernel
theorem d_Tape_readRule_25 : decode c_Tape_readRule 25 = .ok (.iconst 1, 1) := by decide +kernel
theorem d_Tape_readRule_26 : decode c_Tape_readRule 26 = .ok (.iconst 5, 1) := by decide +kernel
theorem d_Tape_readRule_27 : decode c_Tape_readRule 27 = .ok (.invokevirtual 41, 3) := by decide +kernel
theorem d_Tape_readRule_30 : decode c_Tape_readRule 30 = .ok (.putfield 68, 3) := by decide +kernel
theorem d_Tape_readRule_33 : decode c_Tape_readRule 33 = .ok (.aload_n 0, 1) := by decide +kernel
theorem d_Tape_readRule_34 : decode c_Tape_readRule 34 = .ok (.bipush 46, 2) := by decide +kernel
theorem d_Tape_readRule_36 : decode c_Tape_readRule 36 = .ok (.invokevirtual 59, 3) := by decide +kernel
theorem d_Tape_readRule_39 : decode c_Tape_readRule 39 = .ok (.aload_n 1, 1) := by decide +kernel
theorem d_Tape_readRule_40 : decode c_Tape_readRule 40 = .ok (.aload_n 0, 1) := by decide +kernel
theorem d_Tape_readRule_41 : decode c_Tape_readRule 41 = .ok (.iconst 0, 1) := by decide +kernel
theorem d_Tape_readRule_42 : decode c_Tape_readRule 42 = .ok (.bipush 6, 2) := by decide +kernel
theorem d_Tape_readRule_44 : decode c_Tape_readRule 44 = .ok (.invokevirtual 41, 3) := by decide +kernel
theorem d_Tape_readRule_47 : decode c_Tape_readRule 47 = .ok (.putfield 71, 3) := by decide +kernel
theorem d_Tape_readRule_50 : decode c_Tape_readRule 50 = .ok (.aload_n 0, 1) := by decide +kernel
theorem d_Tape_readRule_51 : decode c_Tape_readRule 51 = .ok (.bipush 47, 2) := by decide +kernel
theorem d_Tape_readRule_53 : decode c_Tape_readRule 53 = .ok (.invokevirtual 59, 3) := by decide +kernel
theorem d_Tape_readRule_56 : decode c_Tape_readRule 56 = .ok (.aload_n 1, 1) := by decide +kernel
theorem d_Tape_readRule_57 : decode c_Tape_readRule 57 = .ok (.aload_n 0, 1) := by decide +kernel
theorem d_Tape_readRule_58 : decode c_Tape_readRule 58 = .ok (.iconst 0, 1) := by decide +kernel
theorem d_Tape_readRule_59 : decode c_Tape_readRule 59 = .ok (.sipush 1439, 3) := by decide +kernel
theorem d_Tape_readRule_62 : decode c_Tape_readRule 62 = .ok (.invokevirtual 41, 3) := by decide +kernel
theorem d_Tape_readRule_65 : decode c_Tape_readRule 65 = .ok (.putfield 74, 3) := by decide +kernel
theorem d_Tape_readRule_68 : decode c_Tape_readRule 68 = .ok (.return_, 1) := by decide +kernel
theorem d_Zone_become_0 : decode c_Zone_become 0 = .ok (.aload_n 0, 1) := by decide +kernel
theorem d_Zone_become_1 : decode c_Zone_become 1 = .ok (.aload_n 1, 1) := by decide +kernel
theorem d_Zone_become_2 : decode c_Zone_become 2 = .ok (.getfield 21, 3) := by decide +kernel
theorem d_Zone_become_5 : decode c_Zone_become 5 = .ok (.putfield 21, 3) := by decide +kernel
theorem d_Zone_become_8 : decode c_Zone_become 8 = .ok (.aload_n 0, 1) := by decide +kernel
theorem d_Zone_become_9 : decode c_Zone_become 9 = .ok (.aload_n 1, 1) := by decide +kernel
theorem d_Zone_become_10 : decode c_Zone_become 10 = .ok (.getfield 25, 3) := by decide +kernel
theorem d_Zone_become_13 : decode c_Zone_become 13 = .ok (.putfield 25, 3) := by decide +kernel
theorem d_Zone_become_16 : decode c_Zone_become 16 = .ok (.aload_n 0, 1) := by decide +kernel
theorem d_Zone_become_17 : decode c_Zone_become 17 = .ok (.getfield 12, 3) := by decide +kernel
theorem d_Zone_become_20 : decode c_Zone_become 20 = .ok (.aload_n 1, 1) := by decide +kernel
theorem d_Zone_become_21 : decode c_Zone_become 21 = .ok (.getfield 12, 3) := by decide +kernel
theorem d_Zone_become_24 : decode c_Zone_become 24 = .ok (.invokevirtual 28, 3) := by decide +kernel
theorem d_Zone_become_27 : decode c_Zone_become 27 = .ok (.aload_n 0, 1) := by decide +kernel
theorem d_Zone_become_28 : decode c_Zone_become 28 = .ok (.getfield 18, 3) := by decide +kernel
theorem d_Zone_become_31 : decode c_Zone_become 31 = .ok (.aload_n 1, 1) := by decide +kernel
theorem d_Zone_become_32 : decode c_Zone_become 32 = .ok (.getfield 18, 3) := by decide +kernel
theorem d_Zone_become_35 : decode c_Zone_become 35 = .ok (.invokevirtual 28, 3) := by decide +kernel
theorem d_Zone_become_38 : decode c_Zone_become 38 = .ok (.return_, 1) := by decide +kernel
theorem d_Rule_become_0 : decode c_Rule_become 0 = .ok (.aload_n 0, 1) := by decide +kernel
theorem d_Rule_become_1 : decode c_Rule_become 1 = .ok (.aload_n 1, 1) := by decide +kernel
theorem d_Rule_become_2 : decode c_Rule_become 2 = .ok (.getfield 9, 3) := by decide +kernel
theorem d_Rule_become_5 : decode c_Rule_become 5 = .ok (.putfield 9, 3) := by decide +kernel
theorem d_Rule_become_8 : decode c_Rule_become 8 = .ok (.aload_n 0, 1) := by decide +kernel
theorem d_Rule_become_9 : decode c_Rule_become 9 = .ok (.aload_n 1, 1) := by decide +kernel
theorem d_Rule_become_10 : decode c_Rule_become 10 = .ok (.getfield 15, 3) := by decide +kernel
theorem d_Rule_become_13 : decode c_Rule_become 13 = .ok (.putfield 15, 3) := by decide +kernel
theorem d_Rule_become_16 : decode c_Rule_become 16 = .ok (.aload_n 0, 1) := by decide +kernel
theorem d_Rule_become_17 : decode c_Rule_become 17 = .ok (.aload_n 1, 1) := by decide +kernel
theorem d_Rule_become_18 : decode c_Rule_become 18 = .ok (.getfield 18, 3) := by decide +kernel
theorem d_Rule_become_21 : decode c_Rule_become 21 = .ok (.putfield 18, 3) := by decide +kernel
theorem d_Rule_become_24 : decode c_Rule_become 24 = .ok (.aload_n 0, 1) := by decide +kernel
theorem d_Rule_become_25 : decode c_Rule_become 25 = .ok (.aload_n 1, 1) := by decide +kernel
theorem d_Rule_become_26 : decode c_Rule_become 26 = .ok (.getfield 21, 3) := by decide +kernel
theorem d_Rule_become_29 : decode c_Rule_become 29 = .ok (.putfield 21, 3) := by decide +kernel
theorem d_Rule_become_32 : decode c_Rule_become 32 = .ok (.return_, 1) := by decide +kernel
theorem d_Clk_local_0 : decode c_Clk_local 0 = .ok (.aload_n 0, 1) := by decide +kernel
theorem d_Clk_local_1 : decode c_Clk_local 1 = .ok (.iload_n 1, 1) := by decide +kernel
theorem d_Clk_local_2 : decode c_Clk_local 2 = .ok (.invokevirtual 44, 3) := by decide +kernel
theorem d_Clk_local_5 : decode c_Clk_local 5 = .ok (.astore 4, 2) := by decide +kernel
theorem d_Clk_local_7 : decode c_Clk_local 7 = .ok (.lload_n 2, 1) := by decide +kernel
theorem d_Clk_local_8 : decode c_Clk_local 8 = .ok (.invokestatic 59, 3) := by decide +kernel
theorem d_Clk_local_11 : decode c_Clk_local 11 = .ok (.lload_n 2, 1) := by decide +kernel
theorem d_Clk_local_12 : decode c_Clk_local 12 = .ok (.aload 4, 2) := by decide +kernel
theorem d_Clk_local_14 : decode c_Clk_local 14 = .ok (.lload_n 2, 1) := by decide +kernel
theorem d_Clk_local_15 : decode c_Clk_local 15 = .ok (.invokevirtual 63, 3) := by decide +kernel
theorem d_Clk_local_18 : decode c_Clk_local 18 = .ok (.i2l, 1) := by decide +kernel
theorem d_Clk_local_19 : decode c_Clk_local 19 = .ok (.ldc2_w 67, 3) := by decide +kernel
theorem d_Clk_local_22 : decode c_Clk_local 22 = .ok (.lmul, 1) := by decide +kernel
theorem d_Clk_local_23 : decode c_Clk_local 23 = .ok (.ladd, 1) := by decide +kernel
theorem d_Clk_local_24 : decode c_Clk_local 24 = .ok (.lreturn, 1) := by decide +kernel
theorem d_Clk_checkTime_0 : decode c_Clk_checkTime 0 = .ok (.lload_n 0, 1) := by decide +kernel
theorem d_Clk_checkTime_1 : decode c_Clk_checkTime 1 = .ok (.lconst 0, 1) := by decide +kernel
theorem d_Clk_checkTime_2 : decode c_Clk_checkTime 2 = .ok (.lcmp, 1) := by decide +kernel
theorem d_Clk_checkTime_3 : decode c_Clk_checkTime 3 = .ok (.ifCond .lt 11, 3) := by decide +kernel
theorem d_Clk_checkTime_6 : decode c_Clk_checkTime 6 = .ok (.lload_n 0, 1) := by decide +kernel
theorem d_Clk_checkTime_7 : decode c_Clk_checkTime 7 = .ok (.ldc2_w 105, 3) := by decide +kernel
theorem d_Clk_checkTime_10 : decode c_Clk_checkTime 10 = .ok (.lcmp, 1) := by decide +kernel
theorem d_Clk_checkTime_11 : decode c_Clk_checkTime 11 = .ok (.ifCond .le 11, 3) := by decide +kernel
theorem d_Clk_checkTime_14 : decode c_Clk_checkTime 14 = .ok (.new 41, 3) := by decide +kernel
theorem d_Clk_checkTime_17 : decode c_Clk_checkTime 17 = .ok (.dup, 1) := by decide +kernel
theorem d_Clk_checkTime_18 : decode c_Clk_checkTime 18 = .ok (.invokespecial 43, 3) := by decide +kernel
theorem d_Clk_checkTime_21 : decode c_Clk_checkTime 21 = .ok (.athrow, 1) := by decide +kernel
theorem d_Clk_checkTime_22 : decode c_Clk_checkTime 22 = .ok (.return_, 1) := by decide +kernel
theorem d_Zone_minutesAt_0 : decode c_Zone_minutesAt 0 = .ok (.aload_n 0, 1) := by decide +kernel
theorem d_Zone_minutesAt_1 : decode c_Zone_minutesAt 1 = .ok (.lload_n 1, 1) := by decide +kernel
theorem d_Zone_minutesAt_2 : decode c_Zone_minutesAt 2 = .ok (.invokevirtual 36, 3) := by decide +kernel
theorem d_Zone_minutesAt_5 : decode c_Zone_minutesAt 5 = .ok (.ifCond .eq 15, 3) := by decide +kernel
theorem d_Zone_minutesAt_8 : decode c_Zone_minutesAt 8 = .ok (.aload_n 0, 1) := by decide +kernel
theorem d_Zone_minutesAt_9 : decode c_Zone_minutesAt 9 = .ok (.getfield 21, 3) := by decide +kernel
theorem d_Zone_minutesAt_12 : decode c_Zone_minutesAt 12 = .ok (.aload_n 0, 1) := by decide +kernel
theorem d_Zone_minutesAt_13 : decode c_Zone_minutesAt 13 = .ok (.getfield 25, 3) := by decide +kernel
theorem d_Zone_minutesAt_16 : decode c_Zone_minutesAt 16 = .ok (.iadd, 1) := by decide +kernel
theorem d_Zone_minutesAt_17 : decode c_Zone_minutesAt 17 = .ok (.goto 7, 3) := by decide +kernel
theorem d_Zone_minutesAt_20 : decode c_Zone_minutesAt 20 = .ok (.aload_n 0, 1) := by decide +kernel
theorem d_Zone_minutesAt_21 : decode c_Zone_minutesAt 21 = .ok (.getfield 21, 3) := by decide +kernel
theorem d_Zone_minutesAt_24 : decode c_Zone_minutesAt 24 = .ok (.ireturn, 1) := by decide +kernel
theorem d_Zone_isSummer_0 : decode c_Zone_isSummer 0 = .ok (.aload_n 0, 1) := by decide +kernel
theorem d_Zone_isSummer_1 : decode c_Zone_isSummer 1 = .ok (.getfield 25, 3) := by decide +kernel
theorem d_Zone_isSummer_4 : decode c_Zone_isSummer 4 = .ok (.ifCond .le 40, 3) := by decide +kernel
theorem d_Zone_isSummer_7 : decode c_Zone_isSummer 7 = .ok (.aload_n 0, 1) := by decide +kernel
theorem d_Zone_isSummer_8 : decode c_Zone_isSummer 8 = .ok (.getfield 12, 3) := by decide +kernel
theorem d_Zone_isSummer_11 : decode c_Zone_isSummer 11 = .ok (.lload_n 1, 1) := by decide +kernel
theorem d_Zone_isSummer_12 : decode c_Zone_isSummer 12 = .ok (.aload_n 0, 1) := by decide +kernel
theorem d_Zone_isSummer_13 : decode c_Zone_isSummer 13 = .ok (.getfield 21, 3) := by decide +kernel
theorem d_Zone_isSummer_16 : decode c_Zone_isSummer 16 = .ok (.invokevirtual 32, 3) := by decide +kernel
theorem d_Zone_isSummer_19 : decode c_Zone_isSummer 19 = .ok (.aload_n 0, 1) := by decide +kernel
theorem d_Zone_isSummer_20 : decode c_Zone_isSummer 20 = .ok (.getfield 18, 3) := by decide +kernel
theorem d_Zone_isSummer_23 : decode c_Zone_isSummer 23 = .ok (.lload_n 1, 1) := by decide +kernel
theorem d_Zone_isSummer_24 : decode c_Zone_isSummer 24 = .ok (.aload_n 0, 1) := by decide +kernel
theorem d_Zone_isSummer_25 : decode c_Zone_isSummer 25 = .ok (.getfield 21, 3) := by decide +kernel
theorem d_Zone_isSummer_28 : decode c_Zone_isSummer 28 = .ok (.aload_n 0, 1) := by decide +kernel
theorem d_Zone_isSummer_29 : decode c_Zone_isSummer 29 = .ok (.getfield 25, 3) := by decide +kernel
theorem d_Zone_isSummer_32 : decode c_Zone_isSummer 32 = .ok (.iadd, 1) := by decide +kernel
theorem d_Zone_isSummer_33 : decode c_Zone_isSummer 33 = .ok (.invokevirtual 32, 3) := by decide +kernel
theorem d_Zone_isSummer_36 : decode c_Zone_isSummer 36 = .ok (.lcmp, 1) := by decide +kernel
theorem d_Zone_isSummer_37 : decode c_Zone_isSummer 37 = .ok (.ifCond .le 7, 3) := by decide +kernel
theorem d_Zone_isSummer_40 : decode c_Zone_isSummer 40 = .ok (.iconst 1, 1) := by decide +kernel
theorem d_Zone_isSummer_41 : decode c_Zone_isSummer 41 = .ok (.goto 4, 3) := by decide +kernel
theorem d_Zone_isSummer_44 : decode c_Zone_isSummer 44 = .ok (.iconst 0, 1) := by decide +kernel
theorem d_Zone_isSummer_45 : decode c_Zone_isSummer 45 = .ok (.ireturn, 1) := by decide +kernel
theorem d_Rule_lastUpTo_0 : decode c_Rule_lastUpTo 0 = .ok (.lload_n 1, 1) := by decide +kernel
theorem d_Rule_lastUpTo_1 : decode c_Rule_lastUpTo 1 = .ok (.iload_n 3, 1) := by decide +kernel
theorem d_Rule_lastUpTo_2 : decode c_Rule_lastUpTo 2 = .ok (.i2l, 1) := by decide +kernel
theorem d_Rule_lastUpTo_3 : decode c_Rule_lastUpTo 3 = .ok (.ldc2_w 24, 3) := by decide +kernel
theorem d_Rule_lastUpTo_6 : decode c_Rule_lastUpTo 6 = .ok (.lmul, 1) := by decide +kernel
theorem d_Rule_lastUpTo_7 : decode c_Rule_lastUpTo 7 = .ok (.ladd, 1) := by decide +kernel
theorem d_Rule_lastUpTo_8 : decode c_Rule_lastUpTo 8 = .ok (.lstore 4, 2) := by decide +kernel
theorem d_Rule_lastUpTo_10 : decode c_Rule_lastUpTo 10 = .ok (.lload 4, 2) := by decide +kernel
theorem d_Rule_lastUpTo_12 : decode c_Rule_lastUpTo 12 = .ok (.invokestatic 26, 3) := by decide +kernel
theorem d_Rule_lastUpTo_15 : decode c_Rule_lastUpTo 15 = .ok (.invokestatic 32, 3) := by decide +kernel
theorem d_Rule_lastUpTo_18 : decode c_Rule_lastUpTo 18 = .ok (.sipush 2299, 3) := by decide +kernel
theorem d_Rule_lastUpTo_21 : decode c_Rule_lastUpTo 21 = .ok (.invokestatic 36, 3) := by decide +kernel
theorem d_Rule_lastUpTo_24 : decode c_Rule_lastUpTo 24 = .ok (.istore 6, 2) := by decide +kernel
theorem d_Rule_lastUpTo_26 : decode c_Rule_lastUpTo 26 = .ok (.aload_n 0, 1) := by decide +kernel
theorem d_Rule_lastUpTo_27 : decode c_Rule_lastUpTo 27 = .ok (.iload 6, 2) := by decide +kernel
theorem d_Rule_lastUpTo_29 : decode c_Rule_lastUpTo 29 = .ok (.invokevirtual 42, 3) := by decide +kernel
theorem d_Rule_lastUpTo_32 : decode c_Rule_lastUpTo 32 = .ok (.lload 4, 2) := by decide +kernel
theorem d_Rule_lastUpTo_34 : decode c_Rule_lastUpTo 34 = .ok (.lcmp, 1) := by decide +kernel
theorem d_Rule_lastUpTo_35 : decode c_Rule_lastUpTo 35 = .ok (.ifCond .le 6, 3) := by decide +kernel
theorem d_Rule_lastUpTo_38 : decode c_Rule_lastUpTo 38 = .ok (.iinc 6 (-1), 3) := by decide +kernel
theorem d_Rule_lastUpTo_41 : decode c_Rule_lastUpTo 41 = .ok (.iload 6, 2) := by decide +kernel
theorem d_Rule_lastUpTo_43 : decode c_Rule_lastUpTo 43 = .ok (.sipush 1970, 3) := by decide +kernel
theorem d_Rule_lastUpTo_46 : decode c_Rule_lastUpTo 46 = .ok (.if_icmp .ge 9, 3) := by decide +kernel
theorem d_Rule_lastUpTo_49 : decode c_Rule_lastUpTo 49 = .ok (.ldc2_w 46, 3) := by decide +kernel
theorem d_Rule_lastUpTo_52 : decode c_Rule_lastUpTo 52 = .ok (.goto 16, 3) := by decide +kernel
theorem d_Rule_lastUpTo_55 : decode c_Rule_lastUpTo 55 = .ok (.aload_n 0, 1) := by decide +kernel
theorem d_Rule_lastUpTo_56 : decode c_Rule_lastUpTo 56 = .ok (.iload 6, 2) := by decide +kernel
theorem d_Rule_lastUpTo_58 : decode c_Rule_lastUpTo 58 = .ok (.invokevirtual 42, 3) := by decide +kernel
theorem d_Rule_lastUpTo_61 : decode c_Rule_lastUpTo 61 = .ok (.iload_n 3, 1) := by decide +kernel
theorem d_Rule_lastUpTo_62 : decode c_Rule_lastUpTo 62 = .ok (.i2l, 1) := by decide +kernel
theorem d_Rule_lastUpTo_63 : decode c_Rule_lastUpTo 63 = .ok (.ldc2_w 24, 3) := by decide +kernel
theorem d_Rule_lastUpTo_66 : decode c_Rule_lastUpTo 66 = .ok (.lmul, 1) := by decide +kernel
theorem d_Rule_lastUpTo_67 : decode c_Rule_lastUpTo 67 = .ok (.lsub, 1) := by decide +kernel
theorem d_Rule_lastUpTo_68 : decode c_Rule_lastUpTo 68 = .ok (.lreturn, 1) := by decide +kernel
theorem d_Cal_dayAt_0 : decode c_Cal_dayAt 0 = .ok (.lload_n 0, 1) := by decide +kernel
theorem d_Cal_dayAt_1 : decode c_Cal_dayAt 1 = .ok (.ldc2_w 31, 3) := by decide +kernel
theorem d_Cal_dayAt_4 : decode c_Cal_dayAt 4 = .ok (.invokestatic 43, 3) := by decide +kernel
theorem d_Cal_dayAt_7 : decode c_Cal_dayAt 7 = .ok (.l2i, 1) := by decide +kernel
theorem d_Cal_dayAt_8 : decode c_Cal_dayAt 8 = .ok (.ireturn, 1) := by decide +kernel
theorem d_Math_floorDivJ_0 : decode c_Math_floorDivJ 0 = .ok (.lload_n 0, 1) := by decide +kernel
theorem d_Math_floorDivJ_1 : decode c_Math_floorDivJ 1 = .ok (.lload_n 2, 1) := by decide +kernel
theorem d_Math_floorDivJ_2 : decode c_Math_floorDivJ 2 = .ok (.ldiv, 1) := by decide +kernel
theorem d_Math_floorDivJ_3 : decode c_Math_floorDivJ 3 = .ok (.lstore 4, 2) := by decide +kernel
theorem d_Math_floorDivJ_5 : decode c_Math_floorDivJ 5 = .ok (.lload_n 0, 1) := by decide +kernel
theorem d_Math_floorDivJ_6 : decode c_Math_floorDivJ 6 = .ok (.lload_n 2, 1) := by decide +kernel
theorem d_Math_floorDivJ_7 : decode c_Math_floorDivJ 7 = .ok (.lxor, 1) := by decide +kernel
theorem d_Math_floorDivJ_8 : decode c_Math_floorDivJ 8 = .ok (.lconst 0, 1) := by decide +kernel
theorem d_Math_floorDivJ_9 : decode c_Math_floorDivJ 9 = .ok (.lcmp, 1) := by decide +kernel
theorem d_Math_floorDivJ_10 : decode c_Math_floorDivJ 10 = .ok (.ifCond .ge 17, 3) := by decide +kernel
theorem d_Math_floorDivJ_13 : decode c_Math_floorDivJ 13 = .ok (.lload 4, 2) := by decide +kernel
theorem d_Math_floorDivJ_15 : decode c_Math_floorDivJ 15 = .ok (.lload_n 2, 1) := by decide +kernel
theorem d_Math_floorDivJ_16 : decode c_Math_floorDivJ 16 = .ok (.lmul, 1) := by decide +kernel
theorem d_Math_floorDivJ_17 : decode c_Math_floorDivJ 17 = .ok (.lload_n 0, 1) := by decide +kernel
theorem d_Math_floorDivJ_18 : decode c_Math_floorDivJ 18 = .ok (.lcmp, 1) := by decide +kernel
theorem d_Math_floorDivJ_19 : decode c_Math_floorDivJ 19 = .ok (.ifCond .eq 8, 3) := by decide +kernel
theorem d_Math_floorDivJ_22 : decode c_Math_floorDivJ 22 = .ok (.lload 4, 2) := by decide +kernel
theorem d_Math_floorDivJ_24 : decode c_Math_floorDivJ 24 = .ok (.lconst 1, 1) := by decide +kernel
theorem d_Math_floorDivJ_25 : decode c_Math_floorDivJ 25 = .ok (.lsub, 1) := by decide +kernel
theorem d_Math_floorDivJ_26 : decode c_Math_floorDivJ 26 = .ok (.lreturn, 1) := by decide +kernel
theorem d_Math_floorDivJ_27 : decode c_Math_floorDivJ 27 = .ok (.lload 4, 2) := by decide +kernel
theorem d_Math_floorDivJ_29 : decode c_Math_floorDivJ 29 = .ok (.lreturn, 1) := by decide +kernel
theorem d_Cal_yearOf_0 : decode c_Cal_yearOf 0 = .ok (.sipush 1970, 3) := by decide +kernel
theorem d_Cal_yearOf_3 : decode c_Cal_yearOf 3 = .ok (.iload_n 0, 1) := by decide +kernel
theorem d_Cal_yearOf_4 : decode c_Cal_yearOf 4 = .ok (.sipush 365, 3) := by decide +kernel
theorem d_Cal_yearOf_7 : decode c_Cal_yearOf 7 = .ok (.invokestatic 48, 3) := by decide +kernel
theorem d_Cal_yearOf_10 : decode c_Cal_yearOf 10 = .ok (.iadd, 1) := by decide +kernel
theorem d_Cal_yearOf_11 : decode c_Cal_yearOf 11 = .ok (.istore_n 1, 1) := by decide +kernel
theorem d_Cal_yearOf_12 : decode c_Cal_yearOf 12 = .ok (.iload_n 1, 1) := by decide +kernel
theorem d_Cal_yearOf_13 : decode c_Cal_yearOf 13 = .ok (.iconst 1, 1) := by decide +kernel
theorem d_Cal_yearOf_14 : decode c_Cal_yearOf 14 = .ok (.invokestatic 37, 3) := by decide +kernel
theorem d_Cal_yearOf_17 : decode c_Cal_yearOf 17 = .ok (.iload_n 0, 1) := by decide +kernel
theorem d_Cal_yearOf_18 : decode c_Cal_yearOf 18 = .ok (.if_icmp .le 9, 3) := by decide +kernel
theorem d_Cal_yearOf_21 : decode c_Cal_yearOf 21 = .ok (.iload_n 1, 1) := by decide +kernel
theorem d_Cal_yearOf_22 : decode c_Cal_yearOf 22 = .ok (.iconst 1, 1) := by decide +kernel
theorem d_Cal_yearOf_23 : decode c_Cal_yearOf 23 = .ok (.isub, 1) := by decide +kernel
theorem d_Cal_yearOf_24 : decode c_Cal_yearOf 24 = .ok (.goto 4, 3) := by decide +kernel
theorem d_Cal_yearOf_27 : decode c_Cal_yearOf 27 = .ok (.iload_n 1, 1) := by decide +kernel
theorem d_Cal_yearOf_28 : decode c_Cal_yearOf 28 = .ok (.ireturn, 1) := by decide +kernel
theorem d_Math_floorDivI_0 : decode c_Math_floorDivI 0 = .ok (.iload_n 0, 1) := by decide +kernel
theorem d_Math_floorDivI_1 : decode c_Math_floorDivI 1 = .ok (.iload_n 1, 1) := by decide +kernel
theorem d_Math_floorDivI_2 : decode c_Math_floorDivI 2 = .ok (.idiv, 1) := by decide +kernel
theorem d_Math_floorDivI_3 : decode c_Math_floorDivI 3 = .ok (.istore_n 2, 1) := by decide +kernel
theorem d_Math_floorDivI_4 : decode c_Math_floorDivI 4 = .ok (.iload_n 0, 1) := by decide +kernel
theorem d_Math_floorDivI_5 : decode c_Math_floorDivI 5 = .ok (.iload_n 1, 1) := by decide +kernel
theorem d_Math_floorDivI_6 : decode c_Math_floorDivI 6 = .ok (.ixor, 1) := by decide +kernel
theorem d_Math_floorDivI_7 : decode c_Math_floorDivI 7 = .ok (.ifCond .ge 14, 3) := by decide +kernel
theorem d_Math_floorDivI_10 : decode c_Math_floorDivI 10 = .ok (.iload_n 2, 1) := by decide +kernel
theorem d_Math_floorDivI_11 : decode c_Math_floorDivI 11 = .ok (.iload_n 1, 1) := by decide +kernel
theorem d_Math_floorDivI_12 : decode c_Math_floorDivI 12 = .ok (.imul, 1) := by decide +kernel
theorem d_Math_floorDivI_13 : decode c_Math_floorDivI 13 = .ok (.iload_n 0, 1) := by decide +kernel
theorem d_Math_floorDivI_14 : decode c_Math_floorDivI 14 = .ok (.if_icmp .eq 7, 3) := by decide +kernel
theorem d_Math_floorDivI_17 : decode c_Math_floorDivI 17 = .ok (.iload_n 2, 1) := by decide +kernel
theorem d_Math_floorDivI_18 : decode c_Math_floorDivI 18 = .ok (.iconst 1, 1) := by decide +kernel
theorem d_Math_floorDivI_19 : decode c_Math_floorDivI 19 = .ok (.isub, 1) := by decide +kernel
theorem d_Math_floorDivI_20 : decode c_Math_floorDivI 20 = .ok (.ireturn, 1) := by decide +kernel
theorem d_Math_floorDivI_21 : decode c_Math_floorDivI 21 = .ok (.iload_n 2, 1) := by decide +kernel
theorem d_Math_floorDivI_22 : decode c_Math_floorDivI 22 = .ok (.ireturn, 1) := by decide +kernel
theorem d_Cal_firstDayOf_0 : decode c_Cal_firstDayOf 0 = .ok (.iload_n 0, 1) := by decide +kernel
theorem d_Cal_firstDayOf_1 : decode c_Cal_firstDayOf 1 = .ok (.iconst 1, 1) := by decide +kernel
theorem d_Cal_firstDayOf_2 : decode c_Cal_firstDayOf 2 = .ok (.isub, 1) := by decide +kernel
theorem d_Cal_firstDayOf_3 : decode c_Cal_firstDayOf 3 = .ok (.istore_n 2, 1) := by decide +kernel
theorem d_Cal_firstDayOf_4 : decode c_Cal_firstDayOf 4 = .ok (.iload_n 2, 1) := by decide +kernel
theorem d_Cal_firstDayOf_5 : decode c_Cal_firstDayOf 5 = .ok (.iconst 4, 1) := by decide +kernel
theorem d_Cal_firstDayOf_6 : decode c_Cal_firstDayOf 6 = .ok (.idiv, 1) := by decide +kernel
theorem d_Cal_firstDayOf_7 : decode c_Cal_firstDayOf 7 = .ok (.iload_n 2, 1) := by decide +kernel
theorem d_Cal_firstDayOf_8 : decode c_Cal_firstDayOf 8 = .ok (.bipush 100, 2) := by decide +kernel
theorem d_Cal_firstDayOf_10 : decode c_Cal_firstDayOf 10 = .ok (.idiv, 1) := by decide +kernel
theorem d_Cal_firstDayOf_11 : decode c_Cal_firstDayOf 11 = .ok (.isub, 1) := by decide +kernel
theorem d_Cal_firstDayOf_12 : decode c_Cal_firstDayOf 12 = .ok (.iload_n 2, 1) := by decide +kernel
theorem d_Cal_firstDayOf_13 : decode c_Cal_firstDayOf 13 = .ok (.sipush 400, 3) := by decide +kernel
theorem d_Cal_firstDayOf_16 : decode c_Cal_firstDayOf 16 = .ok (.idiv, 1) := by decide +kernel
theorem d_Cal_firstDayOf_17 : decode c_Cal_firstDayOf 17 = .ok (.iadd, 1) := by decide +kernel
theorem d_Cal_firstDayOf_18 : decode c_Cal_firstDayOf 18 = .ok (.sipush 477, 3) := by decide +kernel
theorem d_Cal_firstDayOf_21 : decode c_Cal_firstDayOf 21 = .ok (.isub, 1) := by decide +kernel
theorem d_Cal_firstDayOf_22 : decode c_Cal_firstDayOf 22 = .ok (.istore_n 3, 1) := by decide +kernel
theorem d_Cal_firstDayOf_23 : decode c_Cal_firstDayOf 23 = .ok (.sipush 365, 3) := by decide +kernel
theorem d_Cal_firstDayOf_26 : decode c_Cal_firstDayOf 26 = .ok (.iload_n 0, 1) := by decide +kernel
theorem d_Cal_firstDayOf_27 : decode c_Cal_firstDayOf 27 = .ok (.sipush 1970, 3) := by decide +kernel
theorem d_Cal_firstDayOf_30 : decode c_Cal_firstDayOf 30 = .ok (.isub, 1) := by decide +kernel
theorem d_Cal_firstDayOf_31 : decode c_Cal_firstDayOf 31 = .ok (.imul, 1) := by decide +kernel
theorem d_Cal_firstDayOf_32 : decode c_Cal_firstDayOf 32 = .ok (.iload_n 3, 1) := by decide +kernel
theorem d_Cal_firstDayOf_33 : decode c_Cal_firstDayOf 33 = .ok (.iadd, 1) := by decide +kernel
theorem d_Cal_firstDayOf_34 : decode c_Cal_firstDayOf 34 = .ok (.istore 4, 2) := by decide +kernel
theorem d_Cal_firstDayOf_36 : decode c_Cal_firstDayOf 36 = .ok (.iconst 1, 1) := by decide +kernel
theorem d_Cal_firstDayOf_37 : decode c_Cal_firstDayOf 37 = .ok (.istore 5, 2) := by decide +kernel
theorem d_Cal_firstDayOf_39 : decode c_Cal_firstDayOf 39 = .ok (.iload 5, 2) := by decide +kernel
theorem d_Cal_firstDayOf_41 : decode c_Cal_firstDayOf 41 = .ok (.iload_n 1, 1) := by decide +kernel
theorem d_Cal_firstDayOf_42 : decode c_Cal_firstDayOf 42 = .ok (.if_icmp .ge 20, 3) := by decide +kernel
theorem d_Cal_firstDayOf_45 : decode c_Cal_firstDayOf 45 = .ok (.iload 4, 2) := by decide +kernel
theorem d_Cal_firstDayOf_47 : decode c_Cal_firstDayOf 47 = .ok (.iload_n 0, 1) := by decide +kernel
theorem d_Cal_firstDayOf_48 : decode c_Cal_firstDayOf 48 = .ok (.iload 5, 2) := by decide +kernel
theorem d_Cal_firstDayOf_50 : decode c_Cal_firstDayOf 50 = .ok (.invokestatic 50, 3) := by decide +kernel
theorem d_Cal_firstDayOf_53 : decode c_Cal_firstDayOf 53 = .ok (.iadd, 1) := by decide +kernel
theorem d_Cal_firstDayOf_54 : decode c_Cal_firstDayOf 54 = .ok (.istore 4, 2) := by decide +kernel
theorem d_Cal_firstDayOf_56 : decode c_Cal_firstDayOf 56 = .ok (.iinc 5 1, 3) := by decide +kernel
theorem d_Cal_firstDayOf_59 : decode c_Cal_firstDayOf 59 = .ok (.goto (-20), 3) := by decide +kernel
theorem d_Cal_firstDayOf_62 : decode c_Cal_firstDayOf 62 = .ok (.iload 4, 2) := by decide +kernel
theorem d_Cal_firstDayOf_64 : decode c_Cal_firstDayOf 64 = .ok (.ireturn, 1) := by decide +kernel
theorem d_Cal_lengthOf_0 : decode c_Cal_lengthOf 0 = .ok (.iload_n 1, 1) := by decide +kernel
theorem d_Cal_lengthOf_1 : decode c_Cal_lengthOf 1 = .ok (.tableswitch 87 2 11 #[55, 87, 84, 87, 84, 87, 87, 84, 87, 84], 55) := by decide +kernel
theorem d_Cal_lengthOf_56 : decode c_Cal_lengthOf 56 = .ok (.iload_n 0, 1) := by decide +kernel
theorem d_Cal_lengthOf_57 : decode c_Cal_lengthOf 57 = .ok (.iconst 4, 1) := by decide +kernel
theorem d_Cal_lengthOf_58 : decode c_Cal_lengthOf 58 = .ok (.irem, 1) := by decide +kernel
theorem d_Cal_lengthOf_59 : decode c_Cal_lengthOf 59 = .ok (.ifCond .ne 23, 3) := by decide +kernel
theorem d_Cal_lengthOf_62 : decode c_Cal_lengthOf 62 = .ok (.iload_n 0, 1) := by decide +kernel
theorem d_Cal_lengthOf_63 : decode c_Cal_lengthOf 63 = .ok (.bipush 100, 2) := by decide +kernel
theorem d_Cal_lengthOf_65 : decode c_Cal_lengthOf 65 = .ok (.irem, 1) := by decide +kernel
theorem d_Cal_lengthOf_66 : decode c_Cal_lengthOf 66 = .ok (.ifCond .ne 11, 3) := by decide +kernel
theorem d_Cal_lengthOf_69 : decode c_Cal_lengthOf 69 = .ok (.iload_n 0, 1) := by decide +kernel
theorem d_Cal_lengthOf_70 : decode c_Cal_lengthOf 70 = .ok (.sipush 400, 3) := by decide +kernel
theorem d_Cal_lengthOf_73 : decode c_Cal_lengthOf 73 = .ok (.irem, 1) := by decide +kernel
theorem d_Cal_lengthOf_74 : decode c_Cal_lengthOf 74 = .ok (.ifCond .ne 8, 3) := by decide +kernel
theorem d_Cal_lengthOf_77 : decode c_Cal_lengthOf 77 = .ok (.bipush 29, 2) := by decide +kernel
theorem d_Cal_lengthOf_79 : decode c_Cal_lengthOf 79 = .ok (.goto 5, 3) := by decide +kernel
theorem d_Cal_lengthOf_82 : decode c_Cal_lengthOf 82 = .ok (.bipush 28, 2) := by decide +kernel
theorem d_Cal_lengthOf_84 : decode c_Cal_lengthOf 84 = .ok (.ireturn, 1) := by decide +kernel
theorem d_Cal_lengthOf_85 : decode c_Cal_lengthOf 85 = .ok (.bipush 30, 2) := by decide +kernel
theorem d_Cal_lengthOf_87 : decode c_Cal_lengthOf 87 = .ok (.ireturn, 1) := by decide +kernel
theorem d_Cal_lengthOf_88 : decode c_Cal_lengthOf 88 = .ok (.bipush 31, 2) := by decide +kernel
theorem d_Cal_lengthOf_90 : decode c_Cal_lengthOf 90 = .ok (.ireturn, 1) := by decide +kernel
theorem d_Rule_momentIn_0 : decode c_Rule_momentIn 0 = .ok (.iload_n 1, 1) := by decide +kernel
theorem d_Rule_momentIn_1 : decode c_Rule_momentIn 1 = .ok (.aload_n 0, 1) := by decide +kernel
theorem d_Rule_momentIn_2 : decode c_Rule_momentIn 2 = .ok (.getfield 9, 3) := by decide +kernel
theorem d_Rule_momentIn_5 : decode c_Rule_momentIn 5 = .ok (.invokestatic 53, 3) := by decide +kernel
theorem d_Rule_momentIn_8 : decode c_Rule_momentIn 8 = .ok (.istore_n 2, 1) := by decide +kernel
theorem d_Rule_momentIn_9 : decode c_Rule_momentIn 9 = .ok (.aload_n 0, 1) := by decide +kernel
theorem d_Rule_momentIn_10 : decode c_Rule_momentIn 10 = .ok (.getfield 18, 3) := by decide +kernel
theorem d_Rule_momentIn_13 : decode c_Rule_momentIn 13 = .ok (.iload_n 2, 1) := by decide +kernel
theorem d_Rule_momentIn_14 : decode c_Rule_momentIn 14 = .ok (.invokestatic 56, 3) := by decide +kernel
theorem d_Rule_momentIn_17 : decode c_Rule_momentIn 17 = .ok (.isub, 1) := by decide +kernel
theorem d_Rule_momentIn_18 : decode c_Rule_momentIn 18 = .ok (.bipush 7, 2) := by decide +kernel
theorem d_Rule_momentIn_20 : decode c_Rule_momentIn 20 = .ok (.invokestatic 59, 3) := by decide +kernel
theorem d_Rule_momentIn_23 : decode c_Rule_momentIn 23 = .ok (.istore_n 3, 1) := by decide +kernel
theorem d_Rule_momentIn_24 : decode c_Rule_momentIn 24 = .ok (.iload_n 3, 1) := by decide +kernel
theorem d_Rule_momentIn_25 : decode c_Rule_momentIn 25 = .ok (.bipush 7, 2) := by decide +kernel
theorem d_Rule_momentIn_27 : decode c_Rule_momentIn 27 = .ok (.aload_n 0, 1) := by decide +kernel
theorem d_Rule_momentIn_28 : decode c_Rule_momentIn 28 = .ok (.getfield 15, 3) := by decide +kernel
theorem d_Rule_momentIn_31 : decode c_Rule_momentIn 31 = .ok (.iconst 1, 1) := by decide +kernel
theorem d_Rule_momentIn_32 : decode c_Rule_momentIn 32 = .ok (.isub, 1) := by decide +kernel
theorem d_Rule_momentIn_33 : decode c_Rule_momentIn 33 = .ok (.imul, 1) := by decide +kernel
theorem d_Rule_momentIn_34 : decode c_Rule_momentIn 34 = .ok (.iadd, 1) := by decide +kernel
theorem d_Rule_momentIn_35 : decode c_Rule_momentIn 35 = .ok (.istore 4, 2) := by decide +kernel
theorem d_Rule_momentIn_37 : decode c_Rule_momentIn 37 = .ok (.iload 4, 2) := by decide +kernel
theorem d_Rule_momentIn_39 : decode c_Rule_momentIn 39 = .ok (.iload_n 1, 1) := by decide +kernel
theorem d_Rule_momentIn_40 : decode c_Rule_momentIn 40 = .ok (.aload_n 0, 1) := by decide +kernel
theorem d_Rule_momentIn_41 : decode c_Rule_momentIn 41 = .ok (.getfield 9, 3) := by decide +kernel
theorem d_Rule_momentIn_44 : decode c_Rule_momentIn 44 = .ok (.invokestatic 62, 3) := by decide +kernel
theorem d_Rule_momentIn_47 : decode c_Rule_momentIn 47 = .ok (.if_icmp .lt 6, 3) := by decide +kernel
theorem d_Rule_momentIn_50 : decode c_Rule_momentIn 50 = .ok (.iinc 4 (-7), 3) := by decide +kernel
theorem d_Rule_momentIn_53 : decode c_Rule_momentIn 53 = .ok (.iload_n 2, 1) := by decide +kernel
theorem d_Rule_momentIn_54 : decode c_Rule_momentIn 54 = .ok (.iload 4, 2) := by decide +kernel
theorem d_Rule_momentIn_56 : decode c_Rule_momentIn 56 = .ok (.iadd, 1) := by decide +kernel
theorem d_Rule_momentIn_57 : decode c_Rule_momentIn 57 = .ok (.i2l, 1) := by decide +kernel
theorem d_Rule_momentIn_58 : decode c_Rule_momentIn 58 = .ok (.ldc2_w 65, 3) := by decide +kernel
theorem d_Rule_momentIn_61 : decode c_Rule_momentIn 61 = .ok (.lmul, 1) := by decide +kernel
theorem d_Rule_momentIn_62 : decode c_Rule_momentIn 62 = .ok (.aload_n 0, 1) := by decide +kernel
theorem d_Rule_momentIn_63 : decode c_Rule_momentIn 63 = .ok (.getfield 21, 3) := by decide +kernel
theorem d_Rule_momentIn_66 : decode c_Rule_momentIn 66 = .ok (.i2l, 1) := by decide +kernel
theorem d_Rule_momentIn_67 : decode c_Rule_momentIn 67 = .ok (.ldc2_w 24, 3) := by decide +kernel
theorem d_Rule_momentIn_70 : decode c_Rule_momentIn 70 = .ok (.lmul, 1) := by decide +kernel
theorem d_Rule_momentIn_71 : decode c_Rule_momentIn 71 = .ok (.ladd, 1) := by decide +kernel
theorem d_Rule_momentIn_72 : decode c_Rule_momentIn 72 = .ok (.lreturn, 1) := by decide +kernel
theorem d_Cal_weekdayOf_0 : decode c_Cal_weekdayOf 0 = .ok (.iload_n 0, 1) := by decide +kernel
theorem d_Cal_weekdayOf_1 : decode c_Cal_weekdayOf 1 = .ok (.iconst 4, 1) := by decide +kernel
theorem d_Cal_weekdayOf_2 : decode c_Cal_weekdayOf 2 = .ok (.iadd, 1) := by decide +kernel
theorem d_Cal_weekdayOf_3 : decode c_Cal_weekdayOf 3 = .ok (.bipush 7, 2) := by decide +kernel
theorem d_Cal_weekdayOf_5 : decode c_Cal_weekdayOf 5 = .ok (.invokestatic 46, 3) := by decide +kernel
theorem d_Cal_weekdayOf_8 : decode c_Cal_weekdayOf 8 = .ok (.ireturn, 1) := by decide +kernel
theorem d_Math_floorModI_0 : decode c_Math_floorModI 0 = .ok (.iload_n 0, 1) := by decide +kernel
theorem d_Math_floorModI_1 : decode c_Math_floorModI 1 = .ok (.iload_n 1, 1) := by decide +kernel
theorem d_Math_floorModI_2 : decode c_Math_floorModI 2 = .ok (.irem, 1) := by decide +kernel
theorem d_Math_floorModI_3 : decode c_Math_floorModI 3 = .ok (.istore_n 2, 1) := by decide +kernel
theorem d_Math_floorModI_4 : decode c_Math_floorModI 4 = .ok (.iload_n 0, 1) := by decide +kernel
theorem d_Math_floorModI_5 : decode c_Math_floorModI 5 = .ok (.iload_n 1, 1) := by decide +kernel
theorem d_Math_floorModI_6 : decode c_Math_floorModI 6 = .ok (.ixor, 1) := by decide +kernel
theorem d_Math_floorModI_7 : decode c_Math_floorModI 7 = .ok (.ifCond .ge 11, 3) := by decide +kernel
theorem d_Math_floorModI_10 : decode c_Math_floorModI 10 = .ok (.iload_n 2, 1) := by decide +kernel
theorem d_Math_floorModI_11 : decode c_Math_floorModI 11 = .ok (.ifCond .eq 7, 3) := by decide +kernel
theorem d_Math_floorModI_14 : decode c_Math_floorModI 14 = .ok (.iload_n 2, 1) := by decide +kernel
theorem d_Math_floorModI_15 : decode c_Math_floorModI 15 = .ok (.iload_n 1, 1) := by decide +kernel
theorem d_Math_floorModI_16 : decode c_Math_floorModI 16 = .ok (.iadd, 1) := by decide +kernel
theorem d_Math_floorModI_17 : decode c_Math_floorModI 17 = .ok (.ireturn, 1) := by decide +kernel
theorem d_Math_floorModI_18 : decode c_Math_floorModI 18 = .ok (.iload_n 2, 1) := by decide +kernel
theorem d_Math_floorModI_19 : decode c_Math_floorModI 19 = .ok (.ireturn, 1) := by decide +kernel
theorem d_Clk_many_0 : decode c_Clk_many 0 = .ok (.aload_n 0, 1) := by decide +kernel
theorem d_Clk_many_1 : decode c_Clk_many 1 = .ok (.iload_n 1, 1) := by decide +kernel
theorem d_Clk_many_2 : decode c_Clk_many 2 = .ok (.invokevirtual 44, 3) := by decide +kernel
theorem d_Clk_many_5 : decode c_Clk_many 5 = .ok (.astore 4, 2) := by decide +kernel
theorem d_Clk_many_7 : decode c_Clk_many 7 = .ok (.lload_n 2, 1) := by decide +kernel
theorem d_Clk_many_8 : decode c_Clk_many 8 = .ok (.invokestatic 59, 3) := by decide +kernel
theorem d_Clk_many_11 : decode c_Clk_many 11 = .ok (.aload 4, 2) := by decide +kernel
theorem d_Clk_many_13 : decode c_Clk_many 13 = .ok (.lload_n 2, 1) := by decide +kernel
theorem d_Clk_many_14 : decode c_Clk_many 14 = .ok (.invokevirtual 69, 3) := by decide +kernel
theorem d_Clk_many_17 : decode c_Clk_many 17 = .ok (.ifCond .eq 7, 3) := by decide +kernel
theorem d_Clk_many_20 : decode c_Clk_many 20 = .ok (.iconst 1, 1) := by decide +kernel
theorem d_Clk_many_21 : decode c_Clk_many 21 = .ok (.goto 4, 3) := by decide +kernel
theorem d_Clk_many_24 : decode c_Clk_many 24 = .ok (.iconst 0, 1) := by decide +kernel
theorem d_Clk_many_25 : decode c_Clk_many 25 = .ok (.istore 5, 2) := by decide +kernel
theorem d_Clk_many_27 : decode c_Clk_many 27 = .ok (.aload 4, 2) := by decide +kernel
theorem d_Clk_many_29 : decode c_Clk_many 29 = .ok (.lload_n 2, 1) := by decide +kernel
theorem d_Clk_many_30 : decode c_Clk_many 30 = .ok (.invokevirtual 73, 3) := by decide +kernel
theorem d_Clk_many_33 : decode c_Clk_many 33 = .ok (.ifCond .eq 7, 3) := by decide +kernel
theorem d_Clk_many_36 : decode c_Clk_many 36 = .ok (.iconst 1, 1) := by decide +kernel
theorem d_Clk_many_37 : decode c_Clk_many 37 = .ok (.goto 4, 3) := by decide +kernel
theorem d_Clk_many_40 : decode c_Clk_many 40 = .ok (.iconst 0, 1) := by decide +kernel
theorem d_Clk_many_41 : decode c_Clk_many 41 = .ok (.istore 6, 2) := by decide +kernel
theorem d_Clk_many_43 : decode c_Clk_many 43 = .ok (.iload 5, 2) := by decide +kernel
theorem d_Clk_many_45 : decode c_Clk_many 45 = .ok (.iload 6, 2) := by decide +kernel
theorem d_Clk_many_47 : decode c_Clk_many 47 = .ok (.iadd, 1) := by decide +kernel
theorem d_Clk_many_48 : decode c_Clk_many 48 = .ok (.ireturn, 1) := by decide +kernel
theorem d_Zone_isReadInSummer_0 : decode c_Zone_isReadInSummer 0 = .ok (.aload_n 0, 1) := by decide +kernel
theorem d_Zone_isReadInSummer_1 : decode c_Zone_isReadInSummer 1 = .ok (.aload_n 0, 1) := by decide +kernel
theorem d_Zone_isReadInSummer_2 : decode c_Zone_isReadInSummer 2 = .ok (.lload_n 1, 1) := by decide +kernel
theorem d_Zone_isReadInSummer_3 : decode c_Zone_isReadInSummer 3 = .ok (.invokevirtual 46, 3) := by decide +kernel
theorem d_Zone_isReadInSummer_6 : decode c_Zone_isReadInSummer 6 = .ok (.invokevirtual 36, 3) := by decide +kernel
theorem d_Zone_isReadInSummer_9 : decode c_Zone_isReadInSummer 9 = .ok (.ireturn, 1) := by decide +kernel
theorem d_Zone_fromSummerReading_0 : decode c_Zone_fromSummerReading 0 = .ok (.lload_n 1, 1) := by decide +kernel
theorem d_Zone_fromSummerReading_1 : decode c_Zone_fromSummerReading 1 = .ok (.aload_n 0, 1) := by decide +kernel
theorem d_Zone_fromSummerReading_2 : decode c_Zone_fromSummerReading 2 = .ok (.getfield 21, 3) := by decide +kernel
theorem d_Zone_fromSummerReading_5 : decode c_Zone_fromSummerReading 5 = .ok (.aload_n 0, 1) := by decide +kernel
theorem d_Zone_fromSummerReading_6 : decode c_Zone_fromSummerReading 6 = .ok (.getfield 25, 3) := by decide +kernel
theorem d_Zone_fromSummerReading_9 : decode c_Zone_fromSummerReading 9 = .ok (.iadd, 1) := by decide +kernel
theorem d_Zone_fromSummerReading_10 : decode c_Zone_fromSummerReading 10 = .ok (.i2l, 1) := by decide +kernel
theorem d_Zone_fromSummerReading_11 : decode c_Zone_fromSummerReading 11 = .ok (.ldc2_w 40, 3) := by decide +kernel
theorem d_Zone_fromSummerReading_14 : decode c_Zone_fromSummerReading 14 = .ok (.lmul, 1) := by decide +kernel
theorem d_Zone_fromSummerReading_15 : decode c_Zone_fromSummerReading 15 = .ok (.lsub, 1) := by decide +kernel
theorem d_Zone_fromSummerReading_16 : decode c_Zone_fromSummerReading 16 = .ok (.lreturn, 1) := by decide +kernel
theorem d_Zone_isReadOutsideSummer_0 : decode c_Zone_isReadOutsideSummer 0 = .ok (.aload_n 0, 1) := by decide +kernel
theorem d_Zone_isReadOutsideSummer_1 : decode c_Zone_isReadOutsideSummer 1 = .ok (.aload_n 0, 1) := by decide +kernel
theorem d_Zone_isReadOutsideSummer_2 : decode c_Zone_isReadOutsideSummer 2 = .ok (.lload_n 1, 1) := by decide +kernel
theorem d_Zone_isReadOutsideSummer_3 : decode c_Zone_isReadOutsideSummer 3 = .ok (.invokevirtual 42, 3) := by decide +kernel
theorem d_Zone_isReadOutsideSummer_6 : decode c_Zone_isReadOutsideSummer 6 = .ok (.invokevirtual 36, 3) := by decide +kernel
theorem d_Zone_isReadOutsideSummer_9 : decode c_Zone_isReadOutsideSummer 9 = .ok (.ifCond .ne 7, 3) := by decide +kernel
theorem d_Zone_isReadOutsideSummer_12 : decode c_Zone_isReadOutsideSummer 12 = .ok (.iconst 1, 1) := by decide +kernel
theorem d_Zone_isReadOutsideSummer_13 : decode c_Zone_isReadOutsideSummer 13 = .ok (.goto 4, 3) := by decide +kernel
theorem d_Zone_isReadOutsideSummer_16 : decode c_Zone_isReadOutsideSummer 16 = .ok (.iconst 0, 1) := by decide +kernel
theorem d_Zone_isReadOutsideSummer_17 : decode c_Zone_isReadOutsideSummer 17 = .ok (.ireturn, 1) := by decide +kernel
theorem d_Zone_fromPlainReading_0 : decode c_Zone_fromPlainReading 0 = .ok (.lload_n 1, 1) := by decide +kernel
theorem d_Zone_fromPlainReading_1 : decode c_Zone_fromPlainReading 1 = .ok (.aload_n 0, 1) := by decide +kernel
theorem d_Zone_fromPlainReading_2 : decode c_Zone_fromPlainReading 2 = .ok (.getfield 21, 3) := by decide +kernel
theorem d_Zone_fromPlainReading_5 : decode c_Zone_fromPlainReading 5 = .ok (.i2l, 1) := by decide +kernel
theorem d_Zone_fromPlainReading_6 : decode c_Zone_fromPlainReading 6 = .ok (.ldc2_w 40, 3) := by decide +kernel
theorem d_Zone_fromPlainReading_9 : decode c_Zone_fromPlainReading 9 = .ok (.lmul, 1) := by decide +kernel
theorem d_Zone_fromPlainReading_10 : decode c_Zone_fromPlainReading 10 = .ok (.lsub, 1) := by decide +kernel
theorem d_Zone_fromPlainReading_11 : decode c_Zone_fromPlainReading 11 = .ok (.lreturn, 1) := by decide +kernel
theorem d_Clk_universal_0 : decode c_Clk_universal 0 = .ok (.aload_n 0, 1) := by decide +kernel
theorem d_Clk_universal_1 : decode c_Clk_universal 1 = .ok (.iload_n 1, 1) := by decide +kernel
theorem d_Clk_universal_2 : decode c_Clk_universal 2 = .ok (.invokevirtual 44, 3) := by decide +kernel
theorem d_Clk_universal_5 : decode c_Clk_universal 5 = .ok (.astore 5, 2) := by decide +kernel
theorem d_Clk_universal_7 : decode c_Clk_universal 7 = .ok (.lload_n 2, 1) := by decide +kernel
theorem d_Clk_universal_8 : decode c_Clk_universal 8 = .ok (.invokestatic 59, 3) := by decide +kernel
theorem d_Clk_universal_11 : decode c_Clk_universal 11 = .ok (.aload 5, 2) := by decide +kernel
theorem d_Clk_universal_13 : decode c_Clk_universal 13 = .ok (.lload_n 2, 1) := by decide +kernel
theorem d_Clk_universal_14 : decode c_Clk_universal 14 = .ok (.invokevirtual 69, 3) := by decide +kernel
theorem d_Clk_universal_17 : decode c_Clk_universal 17 = .ok (.istore 6, 2) := by decide +kernel
theorem d_Clk_universal_19 : decode c_Clk_universal 19 = .ok (.aload 5, 2) := by decide +kernel
theorem d_Clk_universal_21 : decode c_Clk_universal 21 = .ok (.lload_n 2, 1) := by decide +kernel
theorem d_Clk_universal_22 : decode c_Clk_universal 22 = .ok (.invokevirtual 73, 3) := by decide +kernel
theorem d_Clk_universal_25 : decode c_Clk_universal 25 = .ok (.istore 7, 2) := by decide +kernel
theorem d_Clk_universal_27 : decode c_Clk_universal 27 = .ok (.iload 6, 2) := by decide +kernel
theorem d_Clk_universal_29 : decode c_Clk_universal 29 = .ok (.ifCond .ne 16, 3) := by decide +kernel
theorem d_Clk_universal_32 : decode c_Clk_universal 32 = .ok (.iload 7, 2) := by decide +kernel
theorem d_Clk_universal_34 : decode c_Clk_universal 34 = .ok (.ifCond .ne 11, 3) := by decide +kernel
theorem d_Clk_universal_37 : decode c_Clk_universal 37 = .ok (.new 76, 3) := by decide +kernel
theorem d_Clk_universal_40 : decode c_Clk_universal 40 = .ok (.dup, 1) := by decide +kernel
theorem d_Clk_universal_41 : decode c_Clk_universal 41 = .ok (.invokespecial 78, 3) := by decide +kernel
theorem d_Clk_universal_44 : decode c_Clk_universal 44 = .ok (.athrow, 1) := by decide +kernel
theorem d_Clk_universal_45 : decode c_Clk_universal 45 = .ok (.iload 6, 2) := by decide +kernel
theorem d_Clk_universal_47 : decode c_Clk_universal 47 = .ok (.ifCond .eq 17, 3) := by decide +kernel
theorem d_Clk_universal_50 : decode c_Clk_universal 50 = .ok (.iload 4, 2) := by decide +kernel
theorem d_Clk_universal_52 : decode c_Clk_universal 52 = .ok (.ifCond .eq 8, 3) := by decide +kernel
theorem d_Clk_universal_55 : decode c_Clk_universal 55 = .ok (.iload 7, 2) := by decide +kernel
theorem d_Clk_universal_57 : decode c_Clk_universal 57 = .ok (.ifCond .ne 7, 3) := by decide +kernel
theorem d_Clk_universal_60 : decode c_Clk_universal 60 = .ok (.iconst 1, 1) := by decide +kernel
theorem d_Clk_universal_61 : decode c_Clk_universal 61 = .ok (.goto 4, 3) := by decide +kernel
theorem d_Clk_universal_64 : decode c_Clk_universal 64 = .ok (.iconst 0, 1) := by decide +kernel
theorem d_Clk_universal_65 : decode c_Clk_universal 65 = .ok (.istore 8, 2) := by decide +kernel
theorem d_Clk_universal_67 : decode c_Clk_universal 67 = .ok (.iload 8, 2) := by decide +kernel
theorem d_Clk_universal_69 : decode c_Clk_universal 69 = .ok (.ifCond .eq 12, 3) := by decide +kernel
theorem d_Clk_universal_72 : decode c_Clk_universal 72 = .ok (.aload 5, 2) := by decide +kernel
theorem d_Clk_universal_74 : decode c_Clk_universal 74 = .ok (.lload_n 2, 1) := by decide +kernel
theorem d_Clk_universal_75 : decode c_Clk_universal 75 = .ok (.invokevirtual 79, 3) := by decide +kernel
theorem d_Clk_universal_78 : decode c_Clk_universal 78 = .ok (.goto 9, 3) := by decide +kernel
theorem d_Clk_universal_81 : decode c_Clk_universal 81 = .ok (.aload 5, 2) := by decide +kernel
theorem d_Clk_universal_83 : decode c_Clk_universal 83 = .ok (.lload_n 2, 1) := by decide +kernel
theorem d_Clk_universal_84 : decode c_Clk_universal 84 = .ok (.invokevirtual 83, 3) := by decide +kernel
theorem d_Clk_universal_87 : decode c_Clk_universal 87 = .ok (.lreturn, 1) := by decide +kernel
theorem d_Clk_change_0 : decode c_Clk_change 0 = .ok (.aload_n 0, 1) := by decide +kernel
theorem d_Clk_change_1 : decode c_Clk_change 1 = .ok (.iload_n 1, 1) := by decide +kernel
theorem d_Clk_change_2 : decode c_Clk_change 2 = .ok (.invokevirtual 44, 3) := by decide +kernel
theorem d_Clk_change_5 : decode c_Clk_change 5 = .ok (.astore 5, 2) := by decide +kernel
theorem d_Clk_change_7 : decode c_Clk_change 7 = .ok (.lload_n 2, 1) := by decide +kernel
theorem d_Clk_change_8 : decode c_Clk_change 8 = .ok (.invokestatic 59, 3) := by decide +kernel
theorem d_Clk_change_11 : decode c_Clk_change 11 = .ok (.iload 4, 2) := by decide +kernel
theorem d_Clk_change_13 : decode c_Clk_change 13 = .ok (.ifCond .eq 12, 3) := by decide +kernel
theorem d_Clk_change_16 : decode c_Clk_change 16 = .ok (.aload 5, 2) := by decide +kernel
theorem d_Clk_change_18 : decode c_Clk_change 18 = .ok (.lload_n 2, 1) := by decide +kernel
theorem d_Clk_change_19 : decode c_Clk_change 19 = .ok (.invokevirtual 86, 3) := by decide +kernel
theorem d_Clk_change_22 : decode c_Clk_change 22 = .ok (.goto 9, 3) := by decide +kernel
theorem d_Clk_change_25 : decode c_Clk_change 25 = .ok (.aload 5, 2) := by decide +kernel
theorem d_Clk_change_27 : decode c_Clk_change 27 = .ok (.lload_n 2, 1) := by decide +kernel
theorem d_Clk_change_28 : decode c_Clk_change 28 = .ok (.invokevirtual 89, 3) := by decide +kernel
theorem d_Clk_change_31 : decode c_Clk_change 31 = .ok (.lstore 6, 2) := by decide +kernel
theorem d_Clk_change_33 : decode c_Clk_change 33 = .ok (.lload 6, 2) := by decide +kernel
theorem d_Clk_change_35 : decode c_Clk_change 35 = .ok (.lconst 0, 1) := by decide +kernel
theorem d_Clk_change_36 : decode c_Clk_change 36 = .ok (.lcmp, 1) := by decide +kernel
theorem d_Clk_change_37 : decode c_Clk_change 37 = .ok (.ifCond .lt 12, 3) := by decide +kernel
theorem d_Clk_change_40 : decode c_Clk_change 40 = .ok (.lload 6, 2) := by decide +kernel
theorem d_Clk_change_42 : decode c_Clk_change 42 = .ok (.ldc2_w 92, 3) := by decide +kernel
theorem d_Clk_change_45 : decode c_Clk_change 45 = .ok (.lcmp, 1) := by decide +kernel
theorem d_Clk_change_46 : decode c_Clk_change 46 = .ok (.ifCond .ne 9, 3) := by decide +kernel
theorem d_Clk_change_49 : decode c_Clk_change 49 = .ok (.ldc2_w 94, 3) := by decide +kernel
theorem d_Clk_change_52 : decode c_Clk_change 52 = .ok (.goto 5, 3) := by decide +kernel
theorem d_Clk_change_55 : decode c_Clk_change 55 = .ok (.lload 6, 2) := by decide +kernel
theorem d_Clk_change_57 : decode c_Clk_change 57 = .ok (.lreturn, 1) := by decide +kernel
theorem d_Zone_lastChangeUpTo_0 : decode c_Zone_lastChangeUpTo 0 = .ok (.aload_n 0, 1) := by decide +kernel
theorem d_Zone_lastChangeUpTo_1 : decode c_Zone_lastChangeUpTo 1 = .ok (.getfield 25, 3) := by decide +kernel
theorem d_Zone_lastChangeUpTo_4 : decode c_Zone_lastChangeUpTo 4 = .ok (.ifCond .ne 7, 3) := by decide +kernel
theorem d_Zone_lastChangeUpTo_7 : decode c_Zone_lastChangeUpTo 7 = .ok (.ldc2_w 49, 3) := by decide +kernel
theorem d_Zone_lastChangeUpTo_10 : decode c_Zone_lastChangeUpTo 10 = .ok (.lreturn, 1) := by decide +kernel
theorem d_Zone_lastChangeUpTo_11 : decode c_Zone_lastChangeUpTo 11 = .ok (.aload_n 0, 1) := by decide +kernel
theorem d_Zone_lastChangeUpTo_12 : decode c_Zone_lastChangeUpTo 12 = .ok (.getfield 12, 3) := by decide +kernel
theorem d_Zone_lastChangeUpTo_15 : decode c_Zone_lastChangeUpTo 15 = .ok (.lload_n 1, 1) := by decide +kernel
theorem d_Zone_lastChangeUpTo_16 : decode c_Zone_lastChangeUpTo 16 = .ok (.aload_n 0, 1) := by decide +kernel
theorem d_Zone_lastChangeUpTo_17 : decode c_Zone_lastChangeUpTo 17 = .ok (.getfield 21, 3) := by decide +kernel
theorem d_Zone_lastChangeUpTo_20 : decode c_Zone_lastChangeUpTo 20 = .ok (.invokevirtual 32, 3) := by decide +kernel
theorem d_Zone_lastChangeUpTo_23 : decode c_Zone_lastChangeUpTo 23 = .ok (.aload_n 0, 1) := by decide +kernel
theorem d_Zone_lastChangeUpTo_24 : decode c_Zone_lastChangeUpTo 24 = .ok (.getfield 18, 3) := by decide +kernel
theorem d_Zone_lastChangeUpTo_27 : decode c_Zone_lastChangeUpTo 27 = .ok (.lload_n 1, 1) := by decide +kernel
theorem d_Zone_lastChangeUpTo_28 : decode c_Zone_lastChangeUpTo 28 = .ok (.aload_n 0, 1) := by decide +kernel
theorem d_Zone_lastChangeUpTo_29 : decode c_Zone_lastChangeUpTo 29 = .ok (.getfield 21, 3) := by decide +kernel
theorem d_Zone_lastChangeUpTo_32 : decode c_Zone_lastChangeUpTo 32 = .ok (.aload_n 0, 1) := by decide +kernel
theorem d_Zone_lastChangeUpTo_33 : decode c_Zone_lastChangeUpTo 33 = .ok (.getfield 25, 3) := by decide +kernel
theorem d_Zone_lastChangeUpTo_36 : decode c_Zone_lastChangeUpTo 36 = .ok (.iadd, 1) := by decide +kernel
theorem d_Zone_lastChangeUpTo_37 : decode c_Zone_lastChangeUpTo 37 = .ok (.invokevirtual 32, 3) := by decide +kernel
theorem d_Zone_lastChangeUpTo_40 : decode c_Zone_lastChangeUpTo 40 = .ok (.invokestatic 51, 3) := by decide +kernel
theorem d_Zone_lastChangeUpTo_43 : decode c_Zone_lastChangeUpTo 43 = .ok (.lreturn, 1) := by decide +kernel
theorem d_Math_maxJ_0 : decode c_Math_maxJ 0 = .ok (.lload_n 0, 1) := by decide +kernel
theorem d_Math_maxJ_1 : decode c_Math_maxJ 1 = .ok (.lload_n 2, 1) := by decide +kernel
theorem d_Math_maxJ_2 : decode c_Math_maxJ 2 = .ok (.lcmp, 1) := by decide +kernel
theorem d_Math_maxJ_3 : decode c_Math_maxJ 3 = .ok (.ifCond .lt 7, 3) := by decide +kernel
theorem d_Math_maxJ_6 : decode c_Math_maxJ 6 = .ok (.lload_n 0, 1) := by decide +kernel
theorem d_Math_maxJ_7 : decode c_Math_maxJ 7 = .ok (.goto 4, 3) := by decide +kernel
theorem d_Math_maxJ_10 : decode c_Math_maxJ 10 = .ok (.lload_n 2, 1) := by decide +kernel
theorem d_Math_maxJ_11 : decode c_Math_maxJ 11 = .ok (.lreturn, 1) := by decide +kernel
theorem d_Zone_firstChangeBehind_0 : decode c_Zone_firstChangeBehind 0 = .ok (.aload_n 0, 1) := by decide +kernel
theorem d_Zone_firstChangeBehind_1 : decode c_Zone_firstChangeBehind 1 = .ok (.getfield 25, 3) := by decide +kernel
theorem d_Zone_firstChangeBehind_4 : decode c_Zone_firstChangeBehind 4 = .ok (.ifCond .ne 7, 3) := by decide +kernel
theorem d_Zone_firstChangeBehind_7 : decode c_Zone_firstChangeBehind 7 = .ok (.ldc2_w 57, 3) := by decide +kernel
theorem d_Zone_firstChangeBehind_10 : decode c_Zone_firstChangeBehind 10 = .ok (.lreturn, 1) := by decide +kernel
theorem d_Zone_firstChangeBehind_11 : decode c_Zone_firstChangeBehind 11 = .ok (.aload_n 0, 1) := by decide +kernel
theorem d_Zone_firstChangeBehind_12 : decode c_Zone_firstChangeBehind 12 = .ok (.getfield 12, 3) := by decide +kernel
theorem d_Zone_firstChangeBehind_15 : decode c_Zone_firstChangeBehind 15 = .ok (.lload_n 1, 1) := by decide +kernel
theorem d_Zone_firstChangeBehind_16 : decode c_Zone_firstChangeBehind 16 = .ok (.aload_n 0, 1) := by decide +kernel
theorem d_Zone_firstChangeBehind_17 : decode c_Zone_firstChangeBehind 17 = .ok (.getfield 21, 3) := by decide +kernel
theorem d_Zone_firstChangeBehind_20 : decode c_Zone_firstChangeBehind 20 = .ok (.invokevirtual 59, 3) := by decide +kernel
theorem d_Zone_firstChangeBehind_23 : decode c_Zone_firstChangeBehind 23 = .ok (.aload_n 0, 1) := by decide +kernel
theorem d_Zone_firstChangeBehind_24 : decode c_Zone_firstChangeBehind 24 = .ok (.getfield 18, 3) := by decide +kernel
theorem d_Zone_firstChangeBehind_27 : decode c_Zone_firstChangeBehind 27 = .ok (.lload_n 1, 1) := by decide +kernel
theorem d_Zone_firstChangeBehind_28 : decode c_Zone_firstChangeBehind 28 = .ok (.aload_n 0, 1) := by decide +kernel
theorem d_Zone_firstChangeBehind_29 : decode c_Zone_firstChangeBehind 29 = .ok (.getfield 21, 3) := by decide +kernel
theorem d_Zone_firstChangeBehind_32 : decode c_Zone_firstChangeBehind 32 = .ok (.aload_n 0, 1) := by decide +kernel
theorem d_Zone_firstChangeBehind_33 : decode c_Zone_firstChangeBehind 33 = .ok (.getfield 25, 3) := by decide +kernel
theorem d_Zone_firstChangeBehind_36 : decode c_Zone_firstChangeBehind 36 = .ok (.iadd, 1) := by decide +kernel
theorem d_Zone_firstChangeBehind_37 : decode c_Zone_firstChangeBehind 37 = .ok (.invokevirtual 59, 3) := by decide +kernel
theorem d_Zone_firstChangeBehind_40 : decode c_Zone_firstChangeBehind 40 = .ok (.invokestatic 62, 3) := by decide +kernel
theorem d_Zone_firstChangeBehind_43 : decode c_Zone_firstChangeBehind 43 = .ok (.lreturn, 1) := by decide +kernel
theorem d_Rule_firstBehind_0 : decode c_Rule_firstBehind 0 = .ok (.lload_n 1, 1) := by decide +kernel
theorem d_Rule_firstBehind_1 : decode c_Rule_firstBehind 1 = .ok (.iload_n 3, 1) := by decide +kernel
theorem d_Rule_firstBehind_2 : decode c_Rule_firstBehind 2 = .ok (.i2l, 1) := by decide +kernel
theorem d_Rule_firstBehind_3 : decode c_Rule_firstBehind 3 = .ok (.ldc2_w 24, 3) := by decide +kernel
theorem d_Rule_firstBehind_6 : decode c_Rule_firstBehind 6 = .ok (.lmul, 1) := by decide +kernel
theorem d_Rule_firstBehind_7 : decode c_Rule_firstBehind 7 = .ok (.ladd, 1) := by decide +kernel
theorem d_Rule_firstBehind_8 : decode c_Rule_firstBehind 8 = .ok (.lstore 4, 2) := by decide +kernel
theorem d_Rule_firstBehind_10 : decode c_Rule_firstBehind 10 = .ok (.lload 4, 2) := by decide +kernel
theorem d_Rule_firstBehind_12 : decode c_Rule_firstBehind 12 = .ok (.invokestatic 26, 3) := by decide +kernel
theorem d_Rule_firstBehind_15 : decode c_Rule_firstBehind 15 = .ok (.invokestatic 32, 3) := by decide +kernel
theorem d_Rule_firstBehind_18 : decode c_Rule_firstBehind 18 = .ok (.sipush 1970, 3) := by decide +kernel
theorem d_Rule_firstBehind_21 : decode c_Rule_firstBehind 21 = .ok (.invokestatic 48, 3) := by decide +kernel
theorem d_Rule_firstBehind_24 : decode c_Rule_firstBehind 24 = .ok (.istore 6, 2) := by decide +kernel
theorem d_Rule_firstBehind_26 : decode c_Rule_firstBehind 26 = .ok (.aload_n 0, 1) := by decide +kernel
theorem d_Rule_firstBehind_27 : decode c_Rule_firstBehind 27 = .ok (.iload 6, 2) := by decide +kernel
theorem d_Rule_firstBehind_29 : decode c_Rule_firstBehind 29 = .ok (.invokevirtual 42, 3) := by decide +kernel
theorem d_Rule_firstBehind_32 : decode c_Rule_firstBehind 32 = .ok (.lload 4, 2) := by decide +kernel
theorem d_Rule_firstBehind_34 : decode c_Rule_firstBehind 34 = .ok (.lcmp, 1) := by decide +kernel
theorem d_Rule_firstBehind_35 : decode c_Rule_firstBehind 35 = .ok (.ifCond .gt 6, 3) := by decide +kernel
theorem d_Rule_firstBehind_38 : decode c_Rule_firstBehind 38 = .ok (.iinc 6 1, 3) := by decide +kernel
theorem d_Rule_firstBehind_41 : decode c_Rule_firstBehind 41 = .ok (.iload 6, 2) := by decide +kernel
theorem d_Rule_firstBehind_43 : decode c_Rule_firstBehind 43 = .ok (.sipush 2299, 3) := by decide +kernel
theorem d_Rule_firstBehind_46 : decode c_Rule_firstBehind 46 = .ok (.if_icmp .le 9, 3) := by decide +kernel
theorem d_Rule_firstBehind_49 : decode c_Rule_firstBehind 49 = .ok (.ldc2_w 51, 3) := by decide +kernel
theorem d_Rule_firstBehind_52 : decode c_Rule_firstBehind 52 = .ok (.goto 16, 3) := by decide +kernel
theorem d_Rule_firstBehind_55 : decode c_Rule_firstBehind 55 = .ok (.aload_n 0, 1) := by decide +kernel
theorem d_Rule_firstBehind_56 : decode c_Rule_firstBehind 56 = .ok (.iload 6, 2) := by decide +kernel
theorem d_Rule_firstBehind_58 : decode c_Rule_firstBehind 58 = .ok (.invokevirtual 42, 3) := by decide +kernel
theorem d_Rule_firstBehind_61 : decode c_Rule_firstBehind 61 = .ok (.iload_n 3, 1) := by decide +kernel
theorem d_Rule_firstBehind_62 : decode c_Rule_firstBehind 62 = .ok (.i2l, 1) := by decide +kernel
theorem d_Rule_firstBehind_63 : decode c_Rule_firstBehind 63 = .ok (.ldc2_w 24, 3) := by decide +kernel
theorem d_Rule_firstBehind_66 : decode c_Rule_firstBehind 66 = .ok (.lmul, 1) := by decide +kernel
theorem d_Rule_firstBehind_67 : decode c_Rule_firstBehind 67 = .ok (.lsub, 1) := by decide +kernel
theorem d_Rule_firstBehind_68 : decode c_Rule_firstBehind 68 = .ok (.lreturn, 1) := by decide +kernel
theorem d_Math_maxI_0 : decode c_Math_maxI 0 = .ok (.iload_n 0, 1) := by decide +kernel
theorem d_Math_maxI_1 : decode c_Math_maxI 1 = .ok (.iload_n 1, 1) := by decide +kernel
theorem d_Math_maxI_2 : decode c_Math_maxI 2 = .ok (.if_icmp .lt 7, 3) := by decide +kernel
theorem d_Math_maxI_5 : decode c_Math_maxI 5 = .ok (.iload_n 0, 1) := by decide +kernel
theorem d_Math_maxI_6 : decode c_Math_maxI 6 = .ok (.goto 4, 3) := by decide +kernel
theorem d_Math_maxI_9 : decode c_Math_maxI 9 = .ok (.iload_n 1, 1) := by decide +kernel
theorem d_Math_maxI_10 : decode c_Math_maxI 10 = .ok (.ireturn, 1) := by decide +kernel
theorem d_Math_minJ_0 : decode c_Math_minJ 0 = .ok (.lload_n 0, 1) := by decide +kernel
theorem d_Math_minJ_1 : decode c_Math_minJ 1 = .ok (.lload_n 2, 1) := by decide +kernel
theorem d_Math_minJ_2 : decode c_Math_minJ 2 = .ok (.lcmp, 1) := by decide +kernel
theorem d_Math_minJ_3 : decode c_Math_minJ 3 = .ok (.ifCond .gt 7, 3) := by decide +kernel
theorem d_Math_minJ_6 : decode c_Math_minJ 6 = .ok (.lload_n 0, 1) := by decide +kernel
theorem d_Math_minJ_7 : decode c_Math_minJ 7 = .ok (.goto 4, 3) := by decide +kernel
theorem d_Math_minJ_10 : decode c_Math_minJ 10 = .ok (.lload_n 2, 1) := by decide +kernel
theorem d_Math_minJ_11 : decode c_Math_minJ 11 = .ok (.lreturn, 1) := by decide +kernel
theorem d_Clk_field_0 : decode c_Clk_field 0 = .ok (.aload_n 0, 1) := by decide +kernel
theorem d_Clk_field_1 : decode c_Clk_field 1 = .ok (.iload_n 1, 1) := by decide +kernel
theorem d_Clk_field_2 : decode c_Clk_field 2 = .ok (.invokevirtual 44, 3) := by decide +kernel
theorem d_Clk_field_5 : decode c_Clk_field 5 = .ok (.astore 5, 2) := by decide +kernel
theorem d_Clk_field_7 : decode c_Clk_field 7 = .ok (.lload_n 2, 1) := by decide +kernel
theorem d_Clk_field_8 : decode c_Clk_field 8 = .ok (.invokestatic 59, 3) := by decide +kernel
theorem d_Clk_field_11 : decode c_Clk_field 11 = .ok (.iload 4, 2) := by decide +kernel
theorem d_Clk_field_13 : decode c_Clk_field 13 = .ok (.ifCond .lt 10, 3) := by decide +kernel
theorem d_Clk_field_16 : decode c_Clk_field 16 = .ok (.iload 4, 2) := by decide +kernel
theorem d_Clk_field_18 : decode c_Clk_field 18 = .ok (.bipush 8, 2) := by decide +kernel
theorem d_Clk_field_20 : decode c_Clk_field 20 = .ok (.if_icmp .le 11, 3) := by decide +kernel
theorem d_Clk_field_23 : decode c_Clk_field 23 = .ok (.new 41, 3) := by decide +kernel
theorem d_Clk_field_26 : decode c_Clk_field 26 = .ok (.dup, 1) := by decide +kernel
theorem d_Clk_field_27 : decode c_Clk_field 27 = .ok (.invokespecial 43, 3) := by decide +kernel
theorem d_Clk_field_30 : decode c_Clk_field 30 = .ok (.athrow, 1) := by decide +kernel
theorem d_Clk_field_31 : decode c_Clk_field 31 = .ok (.iload 4, 2) := by decide +kernel
theorem d_Clk_field_33 : decode c_Clk_field 33 = .ok (.bipush 8, 2) := by decide +kernel
theorem d_Clk_field_35 : decode c_Clk_field 35 = .ok (.if_icmp .ne 18, 3) := by decide +kernel
theorem d_Clk_field_38 : decode c_Clk_field 38 = .ok (.aload 5, 2) := by decide +kernel
theorem d_Clk_field_40 : decode c_Clk_field 40 = .ok (.lload_n 2, 1) := by decide +kernel
theorem d_Clk_field_41 : decode c_Clk_field 41 = .ok (.invokevirtual 96, 3) := by decide +kernel
theorem d_Clk_field_44 : decode c_Clk_field 44 = .ok (.ifCond .eq 7, 3) := by decide +kernel
theorem d_Clk_field_47 : decode c_Clk_field 47 = .ok (.iconst 1, 1) := by decide +kernel
theorem d_Clk_field_48 : decode c_Clk_field 48 = .ok (.goto 4, 3) := by decide +kernel
theorem d_Clk_field_51 : decode c_Clk_field 51 = .ok (.iconst 0, 1) := by decide +kernel
theorem d_Clk_field_52 : decode c_Clk_field 52 = .ok (.ireturn, 1) := by decide +kernel
theorem d_Clk_field_53 : decode c_Clk_field 53 = .ok (.aload 5, 2) := by decide +kernel
theorem d_Clk_field_55 : decode c_Clk_field 55 = .ok (.lload_n 2, 1) := by decide +kernel
theorem d_Clk_field_56 : decode c_Clk_field 56 = .ok (.invokevirtual 63, 3) := by decide +kernel
theorem d_Clk_field_59 : decode c_Clk_field 59 = .ok (.istore 6, 2) := by decide +kernel
theorem d_Clk_field_61 : decode c_Clk_field 61 = .ok (.iload 4, 2) := by decide +kernel
theorem d_Clk_field_63 : decode c_Clk_field 63 = .ok (.bipush 7, 2) := by decide +kernel
theorem d_Clk_field_65 : decode c_Clk_field 65 = .ok (.if_icmp .ne 6, 3) := by decide +kernel
theorem d_Clk_field_68 : decode c_Clk_field 68 = .ok (.iload 6, 2) := by decide +kernel
theorem d_Clk_field_70 : decode c_Clk_field 70 = .ok (.ireturn, 1) := by decide +kernel
theorem d_Clk_field_71 : decode c_Clk_field 71 = .ok (.lload_n 2, 1) := by decide +kernel
theorem d_Clk_field_72 : decode c_Clk_field 72 = .ok (.iload 6, 2) := by decide +kernel
theorem d_Clk_field_74 : decode c_Clk_field 74 = .ok (.i2l, 1) := by decide +kernel
theorem d_Clk_field_75 : decode c_Clk_field 75 = .ok (.ldc2_w 67, 3) := by decide +kernel
theorem d_Clk_field_78 : decode c_Clk_field 78 = .ok (.lmul, 1) := by decide +kernel
theorem d_Clk_field_79 : decode c_Clk_field 79 = .ok (.ladd, 1) := by decide +kernel
theorem d_Clk_field_80 : decode c_Clk_field 80 = .ok (.iload 4, 2) := by decide +kernel
theorem d_Clk_field_82 : decode c_Clk_field 82 = .ok (.invokestatic 99, 3) := by decide +kernel
theorem d_Clk_field_85 : decode c_Clk_field 85 = .ok (.ireturn, 1) := by decide +kernel
theorem d_Cal_partOf_0 : decode c_Cal_partOf 0 = .ok (.lload_n 0, 1) := by decide +kernel
theorem d_Cal_partOf_1 : decode c_Cal_partOf 1 = .ok (.invokestatic 9, 3) := by decide +kernel
theorem d_Cal_partOf_4 : decode c_Cal_partOf 4 = .ok (.istore_n 3, 1) := by decide +kernel
theorem d_Cal_partOf_5 : decode c_Cal_partOf 5 = .ok (.iload_n 3, 1) := by decide +kernel
theorem d_Cal_partOf_6 : decode c_Cal_partOf 6 = .ok (.invokestatic 15, 3) := by decide +kernel
theorem d_Cal_partOf_9 : decode c_Cal_partOf 9 = .ok (.istore 4, 2) := by decide +kernel
theorem d_Cal_partOf_11 : decode c_Cal_partOf 11 = .ok (.iload_n 2, 1) := by decide +kernel
theorem d_Cal_partOf_12 : decode c_Cal_partOf 12 = .ok (.tableswitch 105 0 5 #[40, 53, 66, 79, 95, 102], 40) := by decide +kernel
theorem d_Cal_partOf_52 : decode c_Cal_partOf 52 = .ok (.lload_n 0, 1) := by decide +kernel
theorem d_Cal_partOf_53 : decode c_Cal_partOf 53 = .ok (.ldc2_w 19, 3) := by decide +kernel
theorem d_Cal_partOf_56 : decode c_Cal_partOf 56 = .ok (.invokestatic 21, 3) := by decide +kernel
theorem d_Cal_partOf_59 : decode c_Cal_partOf 59 = .ok (.ldc2_w 27, 3) := by decide +kernel
theorem d_Cal_partOf_62 : decode c_Cal_partOf 62 = .ok (.ldiv, 1) := by decide +kernel
theorem d_Cal_partOf_63 : decode c_Cal_partOf 63 = .ok (.l2i, 1) := by decide +kernel
theorem d_Cal_partOf_64 : decode c_Cal_partOf 64 = .ok (.ireturn, 1) := by decide +kernel
theorem d_Cal_partOf_65 : decode c_Cal_partOf 65 = .ok (.lload_n 0, 1) := by decide +kernel
theorem d_Cal_partOf_66 : decode c_Cal_partOf 66 = .ok (.ldc2_w 29, 3) := by decide +kernel
theorem d_Cal_partOf_69 : decode c_Cal_partOf 69 = .ok (.invokestatic 21, 3) := by decide +kernel
theorem d_Cal_partOf_72 : decode c_Cal_partOf 72 = .ok (.ldc2_w 19, 3) := by decide +kernel
theorem d_Cal_partOf_75 : decode c_Cal_partOf 75 = .ok (.ldiv, 1) := by decide +kernel
theorem d_Cal_partOf_76 : decode c_Cal_partOf 76 = .ok (.l2i, 1) := by decide +kernel
theorem d_Cal_partOf_77 : decode c_Cal_partOf 77 = .ok (.ireturn, 1) := by decide +kernel
theorem d_Cal_partOf_78 : decode c_Cal_partOf 78 = .ok (.lload_n 0, 1) := by decide +kernel
theorem d_Cal_partOf_79 : decode c_Cal_partOf 79 = .ok (.ldc2_w 31, 3) := by decide +kernel
theorem d_Cal_partOf_82 : decode c_Cal_partOf 82 = .ok (.invokestatic 21, 3) := by decide +kernel
theorem d_Cal_partOf_85 : decode c_Cal_partOf 85 = .ok (.ldc2_w 29, 3) := by decide +kernel
theorem d_Cal_partOf_88 : decode c_Cal_partOf 88 = .ok (.ldiv, 1) := by decide +kernel
theorem d_Cal_partOf_89 : decode c_Cal_partOf 89 = .ok (.l2i, 1) := by decide +kernel
theorem d_Cal_partOf_90 : decode c_Cal_partOf 90 = .ok (.ireturn, 1) := by decide +kernel
theorem d_Cal_partOf_91 : decode c_Cal_partOf 91 = .ok (.iload_n 3, 1) := by decide +kernel
theorem d_Cal_partOf_92 : decode c_Cal_partOf 92 = .ok (.iload 4, 2) := by decide +kernel
theorem d_Cal_partOf_94 : decode c_Cal_partOf 94 = .ok (.iload 4, 2) := by decide +kernel
theorem d_Cal_partOf_96 : decode c_Cal_partOf 96 = .ok (.iload_n 3, 1) := by decide +kernel
theorem d_Cal_partOf_97 : decode c_Cal_partOf 97 = .ok (.invokestatic 33, 3) := by decide +kernel
theorem d_Cal_partOf_100 : decode c_Cal_partOf 100 = .ok (.invokestatic 37, 3) := by decide +kernel
theorem d_Cal_partOf_103 : decode c_Cal_partOf 103 = .ok (.isub, 1) := by decide +kernel
theorem d_Cal_partOf_104 : decode c_Cal_partOf 104 = .ok (.iconst 1, 1) := by decide +kernel
theorem d_Cal_partOf_105 : decode c_Cal_partOf 105 = .ok (.iadd, 1) := by decide +kernel
theorem d_Cal_partOf_106 : decode c_Cal_partOf 106 = .ok (.ireturn, 1) := by decide +kernel
theorem d_Cal_partOf_107 : decode c_Cal_partOf 107 = .ok (.iload 4, 2) := by decide +kernel
theorem d_Cal_partOf_109 : decode c_Cal_partOf 109 = .ok (.iload_n 3, 1) := by decide +kernel
theorem d_Cal_partOf_110 : decode c_Cal_partOf 110 = .ok (.invokestatic 33, 3) := by decide +kernel
theorem d_Cal_partOf_113 : decode c_Cal_partOf 113 = .ok (.ireturn, 1) := by decide +kernel
theorem d_Cal_partOf_114 : decode c_Cal_partOf 114 = .ok (.iload 4, 2) := by decide +kernel
theorem d_Cal_partOf_116 : decode c_Cal_partOf 116 = .ok (.ireturn, 1) := by decide +kernel
theorem d_Cal_partOf_117 : decode c_Cal_partOf 117 = .ok (.iload_n 3, 1) := by decide +kernel
theorem d_Cal_partOf_118 : decode c_Cal_partOf 118 = .ok (.invokestatic 40, 3) := by decide +kernel
theorem d_Cal_partOf_121 : decode c_Cal_partOf 121 = .ok (.iconst 1, 1) := by decide +kernel
theorem d_Cal_partOf_122 : decode c_Cal_partOf 122 = .ok (.iadd, 1) := by decide +kernel
theorem d_Cal_partOf_123 : decode c_Cal_partOf 123 = .ok (.ireturn, 1) := by decide +kernel
theorem d_Math_floorModJ_0 : decode c_Math_floorModJ 0 = .ok (.lload_n 0, 1) := by decide +kernel
theorem d_Math_floorModJ_1 : decode c_Math_floorModJ 1 = .ok (.lload_n 2, 1) := by decide +kernel
theorem d_Math_floorModJ_2 : decode c_Math_floorModJ 2 = .ok (.lrem, 1) := by decide +kernel
theorem d_Math_floorModJ_3 : decode c_Math_floorModJ 3 = .ok (.lstore 4, 2) := by decide +kernel
theorem d_Math_floorModJ_5 : decode c_Math_floorModJ 5 = .ok (.lload_n 0, 1) := by decide +kernel
theorem d_Math_floorModJ_6 : decode c_Math_floorModJ 6 = .ok (.lload_n 2, 1) := by decide +kernel
theorem d_Math_floorModJ_7 : decode c_Math_floorModJ 7 = .ok (.lxor, 1) := by decide +kernel
theorem d_Math_floorModJ_8 : decode c_Math_floorModJ 8 = .ok (.lconst 0, 1) := by decide +kernel
theorem d_Math_floorModJ_9 : decode c_Math_floorModJ 9 = .ok (.lcmp, 1) := by decide +kernel
theorem d_Math_floorModJ_10 : decode c_Math_floorModJ 10 = .ok (.ifCond .ge 15, 3) := by decide +kernel
theorem d_Math_floorModJ_13 : decode c_Math_floorModJ 13 = .ok (.lload 4, 2) := by decide +kernel
theorem d_Math_floorModJ_15 : decode c_Math_floorModJ 15 = .ok (.lconst 0, 1) := by decide +kernel
theorem d_Math_floorModJ_16 : decode c_Math_floorModJ 16 = .ok (.lcmp, 1) := by decide +kernel
theorem d_Math_floorModJ_17 : decode c_Math_floorModJ 17 = .ok (.ifCond .eq 8, 3) := by decide +kernel
theorem d_Math_floorModJ_20 : decode c_Math_floorModJ 20 = .ok (.lload 4, 2) := by decide +kernel
theorem d_Math_floorModJ_22 : decode c_Math_floorModJ 22 = .ok (.lload_n 2, 1) := by decide +kernel
theorem d_Math_floorModJ_23 : decode c_Math_floorModJ 23 = .ok (.ladd, 1) := by decide +kernel
theorem d_Math_floorModJ_24 : decode c_Math_floorModJ 24 = .ok (.lreturn, 1) := by decide +kernel
theorem d_Math_floorModJ_25 : decode c_Math_floorModJ 25 = .ok (.lload 4, 2) := by decide +kernel
theorem d_Math_floorModJ_27 : decode c_Math_floorModJ 27 = .ok (.lreturn, 1) := by decide +kernel
theorem d_Cal_monthOf_0 : decode c_Cal_monthOf 0 = .ok (.iconst 1, 1) := by decide +kernel
theorem d_Cal_monthOf_1 : decode c_Cal_monthOf 1 = .ok (.istore_n 2, 1) := by decide +kernel
theorem d_Cal_monthOf_2 : decode c_Cal_monthOf 2 = .ok (.iload_n 2, 1) := by decide +kernel
theorem d_Cal_monthOf_3 : decode c_Cal_monthOf 3 = .ok (.bipush 12, 2) := by decide +kernel
theorem d_Cal_monthOf_5 : decode c_Cal_monthOf 5 = .ok (.if_icmp .ge 20, 3) := by decide +kernel
theorem d_Cal_monthOf_8 : decode c_Cal_monthOf 8 = .ok (.iload_n 0, 1) := by decide +kernel
theorem d_Cal_monthOf_9 : decode c_Cal_monthOf 9 = .ok (.iload_n 2, 1) := by decide +kernel
theorem d_Cal_monthOf_10 : decode c_Cal_monthOf 10 = .ok (.iconst 1, 1) := by decide +kernel
theorem d_Cal_monthOf_11 : decode c_Cal_monthOf 11 = .ok (.iadd, 1) := by decide +kernel
theorem d_Cal_monthOf_12 : decode c_Cal_monthOf 12 = .ok (.invokestatic 37, 3) := by decide +kernel
theorem d_Cal_monthOf_15 : decode c_Cal_monthOf 15 = .ok (.iload_n 1, 1) := by decide +kernel
theorem d_Cal_monthOf_16 : decode c_Cal_monthOf 16 = .ok (.if_icmp .gt 9, 3) := by decide +kernel
theorem d_Cal_monthOf_19 : decode c_Cal_monthOf 19 = .ok (.iinc 2 1, 3) := by decide +kernel
theorem d_Cal_monthOf_22 : decode c_Cal_monthOf 22 = .ok (.goto (-20), 3) := by decide +kernel
theorem d_Cal_monthOf_25 : decode c_Cal_monthOf 25 = .ok (.iload_n 2, 1) := by decide +kernel
theorem d_Cal_monthOf_26 : decode c_Cal_monthOf 26 = .ok (.ireturn, 1) := by decide +kernel
end
section
/-! Decode rows. By program (wip/whole/names.py). -/
theorem d_Ref_init_0 : decode c_Ref_init 0 = .ok (.aload_n 0, 1) := by decide +kernel
theorem d_Ref_init_1 : decode c_Ref_init 1 = .ok (.invokespecial 1, 3) := by decide +kernel
theorem d_Ref_init_4 : decode c_Ref_init 4 = .ok (.aload_n 0, 1) := by decide +kernel
theorem d_Ref_init_5 : decode c_Ref_init 5 = .ok (.sipush 400, 3) := by decide +kernel
theorem d_Ref_init_8 : decode c_Ref_init 8 = .ok (.newarray .byte, 2) := by decide +kernel
theorem d_Ref_init_10 : decode c_Ref_init 10 = .ok (.putfield 7, 3) := by decide +kernel
theorem d_Ref_init_13 : decode c_Ref_init 13 = .ok (.aload_n 0, 1) := by decide +kernel
theorem d_Ref_init_14 : decode c_Ref_init 14 = .ok (.iconst (-1), 1) := by decide +kernel
theorem d_Ref_init_15 : decode c_Ref_init 15 = .ok (.putfield 13, 3) := by decide +kernel
theorem d_Ref_init_18 : decode c_Ref_init 18 = .ok (.aload_n 0, 1) := by decide +kernel
theorem d_Ref_init_19 : decode c_Ref_init 19 = .ok (.bipush 8, 2) := by decide +kernel
theorem d_Ref_init_21 : decode c_Ref_init 21 = .ok (.newarray .int, 2) := by decide +kernel
theorem d_Ref_init_23 : decode c_Ref_init 23 = .ok (.putfield 17, 3) := by decide +kernel
theorem d_Ref_init_26 : decode c_Ref_init 26 = .ok (.aload_n 0, 1) := by decide +kernel
theorem d_Ref_init_27 : decode c_Ref_init 27 = .ok (.bipush 8, 2) := by decide +kernel
theorem d_Ref_init_29 : decode c_Ref_init 29 = .ok (.newarray .int, 2) := by decide +kernel
theorem d_Ref_init_31 : decode c_Ref_init 31 = .ok (.putfield 21, 3) := by decide +kernel
theorem d_Ref_init_34 : decode c_Ref_init 34 = .ok (.aload_n 0, 1) := by decide +kernel
theorem d_Ref_init_35 : decode c_Ref_init 35 = .ok (.bipush 8, 2) := by decide +kernel
theorem d_Ref_init_37 : decode c_Ref_init 37 = .ok (.sipush 660, 3) := by decide +kernel
theorem d_Ref_init_40 : decode c_Ref_init 40 = .ok (.multianewarray 24 2, 4) := by decide +kernel
theorem d_Ref_init_44 : decode c_Ref_init 44 = .ok (.putfield 26, 3) := by decide +kernel
theorem d_Ref_init_47 : decode c_Ref_init 47 = .ok (.aload_n 0, 1) := by decide +kernel
theorem d_Ref_init_48 : decode c_Ref_init 48 = .ok (.bipush 8, 2) := by decide +kernel
theorem d_Ref_init_50 : decode c_Ref_init 50 = .ok (.sipush 660, 3) := by decide +kernel
theorem d_Ref_init_53 : decode c_Ref_init 53 = .ok (.multianewarray 29 2, 4) := by decide +kernel
theorem d_Ref_init_57 : decode c_Ref_init 57 = .ok (.putfield 31, 3) := by decide +kernel
theorem d_Ref_init_60 : decode c_Ref_init 60 = .ok (.aload_n 0, 1) := by decide +kernel
theorem d_Ref_init_61 : decode c_Ref_init 61 = .ok (.bipush 8, 2) := by decide +kernel
theorem d_Ref_init_63 : decode c_Ref_init 63 = .ok (.newarray .int, 2) := by decide +kernel
theorem d_Ref_init_65 : decode c_Ref_init 65 = .ok (.putfield 34, 3) := by decide +kernel
theorem d_Ref_init_68 : decode c_Ref_init 68 = .ok (.aload_n 0, 1) := by decide +kernel
theorem d_Ref_init_69 : decode c_Ref_init 69 = .ok (.bipush 8, 2) := by decide +kernel
theorem d_Ref_init_71 : decode c_Ref_init 71 = .ok (.newarray .int, 2) := by decide +kernel
theorem d_Ref_init_73 : decode c_Ref_init 73 = .ok (.putfield 37, 3) := by decide +kernel
theorem d_Ref_init_76 : decode c_Ref_init 76 = .ok (.aload_n 0, 1) := by decide +kernel
theorem d_Ref_init_77 : decode c_Ref_init 77 = .ok (.iconst 2, 1) := by decide +kernel
theorem d_Ref_init_78 : decode c_Ref_init 78 = .ok (.newarray .long, 2) := by decide +kernel
theorem d_Ref_init_80 : decode c_Ref_init 80 = .ok (.putfield 40, 3) := by decide +kernel
theorem d_Ref_init_83 : decode c_Ref_init 83 = .ok (.return_, 1) := by decide +kernel
theorem d_Ref_thrown_0 : decode c_Ref_thrown 0 = .ok (.aload_n 0, 1) := by decide +kernel
theorem d_Ref_thrown_1 : decode c_Ref_thrown 1 = .ok (.getfield 44, 3) := by decide +kernel
theorem d_Ref_thrown_4 : decode c_Ref_thrown 4 = .ok (.ireturn, 1) := by decide +kernel
theorem d_Ref_zone_0 : decode c_Ref_zone 0 = .ok (.aload_n 0, 1) := by decide +kernel
theorem d_Ref_zone_1 : decode c_Ref_zone 1 = .ok (.iconst 0, 1) := by decide +kernel
theorem d_Ref_zone_2 : decode c_Ref_zone 2 = .ok (.putfield 44, 3) := by decide +kernel
theorem d_Ref_zone_5 : decode c_Ref_zone 5 = .ok (.iload_n 1, 1) := by decide +kernel
theorem d_Ref_zone_6 : decode c_Ref_zone 6 = .ok (.ifCond .lt 9, 3) := by decide +kernel
theorem d_Ref_zone_9 : decode c_Ref_zone 9 = .ok (.iload_n 1, 1) := by decide +kernel
theorem d_Ref_zone_10 : decode c_Ref_zone 10 = .ok (.bipush 7, 2) := by decide +kernel
theorem d_Ref_zone_12 : decode c_Ref_zone 12 = .ok (.if_icmp .le 11, 3) := by decide +kernel
theorem d_Ref_zone_15 : decode c_Ref_zone 15 = .ok (.aload_n 0, 1) := by decide +kernel
theorem d_Ref_zone_16 : decode c_Ref_zone 16 = .ok (.iconst 1, 1) := by decide +kernel
theorem d_Ref_zone_17 : decode c_Ref_zone 17 = .ok (.putfield 44, 3) := by decide +kernel
theorem d_Ref_zone_20 : decode c_Ref_zone 20 = .ok (.goto 27, 3) := by decide +kernel
theorem d_Ref_zone_23 : decode c_Ref_zone 23 = .ok (.aload_n 0, 1) := by decide +kernel
theorem d_Ref_zone_24 : decode c_Ref_zone 24 = .ok (.iconst (-1), 1) := by decide +kernel
theorem d_Ref_zone_25 : decode c_Ref_zone 25 = .ok (.putfield 13, 3) := by decide +kernel
theorem d_Ref_zone_28 : decode c_Ref_zone 28 = .ok (.aload_n 0, 1) := by decide +kernel
theorem d_Ref_zone_29 : decode c_Ref_zone 29 = .ok (.iload_n 1, 1) := by decide +kernel
theorem d_Ref_zone_30 : decode c_Ref_zone 30 = .ok (.invokevirtual 109, 3) := by decide +kernel
theorem d_Ref_zone_33 : decode c_Ref_zone 33 = .ok (.goto 9, 3) := by decide +kernel
theorem d_Ref_zone_36 : decode c_Ref_zone 36 = .ok (.astore_n 2, 1) := by decide +kernel
theorem d_Ref_zone_37 : decode c_Ref_zone 37 = .ok (.aload_n 0, 1) := by decide +kernel
theorem d_Ref_zone_38 : decode c_Ref_zone 38 = .ok (.iconst 2, 1) := by decide +kernel
theorem d_Ref_zone_39 : decode c_Ref_zone 39 = .ok (.putfield 44, 3) := by decide +kernel
theorem d_Ref_zone_42 : decode c_Ref_zone 42 = .ok (.aload_n 0, 1) := by decide +kernel
theorem d_Ref_zone_43 : decode c_Ref_zone 43 = .ok (.iconst 0, 1) := by decide +kernel
theorem d_Ref_zone_44 : decode c_Ref_zone 44 = .ok (.putfield 81, 3) := by decide +kernel
theorem d_Ref_zone_47 : decode c_Ref_zone 47 = .ok (.return_, 1) := by decide +kernel
theorem d_Ref_readZone_0 : decode c_Ref_readZone 0 = .ok (.aload_n 0, 1) := by decide +kernel
theorem d_Ref_readZone_1 : decode c_Ref_readZone 1 = .ok (.iconst 0, 1) := by decide +kernel
theorem d_Ref_readZone_2 : decode c_Ref_readZone 2 = .ok (.putfield 78, 3) := by decide +kernel
theorem d_Ref_readZone_5 : decode c_Ref_readZone 5 = .ok (.aload_n 0, 1) := by decide +kernel
theorem d_Ref_readZone_6 : decode c_Ref_readZone 6 = .ok (.invokevirtual 84, 3) := by decide +kernel
theorem d_Ref_readZone_9 : decode c_Ref_readZone 9 = .ok (.bipush 43, 2) := by decide +kernel
theorem d_Ref_readZone_11 : decode c_Ref_readZone 11 = .ok (.if_icmp .eq 17, 3) := by decide +kernel
theorem d_Ref_readZone_14 : decode c_Ref_readZone 14 = .ok (.aload_n 0, 1) := by decide +kernel
theorem d_Ref_readZone_15 : decode c_Ref_readZone 15 = .ok (.invokevirtual 84, 3) := by decide +kernel
theorem d_Ref_readZone_18 : decode c_Ref_readZone 18 = .ok (.bipush 45, 2) := by decide +kernel
theorem d_Ref_readZone_20 : decode c_Ref_readZone 20 = .ok (.if_icmp .eq 8, 3) := by decide +kernel
theorem d_Ref_readZone_23 : decode c_Ref_readZone 23 = .ok (.aload_n 0, 1) := by decide +kernel
theorem d_Ref_readZone_24 : decode c_Ref_readZone 24 = .ok (.iconst 0, 1) := by decide +kernel
theorem d_Ref_readZone_25 : decode c_Ref_readZone 25 = .ok (.invokevirtual 88, 3) := by decide +kernel
theorem d_Ref_readZone_28 : decode c_Ref_readZone 28 = .ok (.aload_n 0, 1) := by decide +kernel
theorem d_Ref_readZone_29 : decode c_Ref_readZone 29 = .ok (.invokevirtual 84, 3) := by decide +kernel
theorem d_Ref_readZone_32 : decode c_Ref_readZone 32 = .ok (.bipush 45, 2) := by decide +kernel
theorem d_Ref_readZone_34 : decode c_Ref_readZone 34 = .ok (.if_icmp .ne 7, 3) := by decide +kernel
theorem d_Ref_readZone_37 : decode c_Ref_readZone 37 = .ok (.iconst 1, 1) := by decide +kernel
theorem d_Ref_readZone_38 : decode c_Ref_readZone 38 = .ok (.goto 4, 3) := by decide +kernel
theorem d_Ref_readZone_41 : decode c_Ref_readZone 41 = .ok (.iconst 0, 1) := by decide +kernel
theorem d_Ref_readZone_42 : decode c_Ref_readZone 42 = .ok (.istore_n 2, 1) := by decide +kernel
theorem d_Ref_readZone_43 : decode c_Ref_readZone 43 = .ok (.aload_n 0, 1) := by decide +kernel
theorem d_Ref_readZone_44 : decode c_Ref_readZone 44 = .ok (.dup, 1) := by decide +kernel
theorem d_Ref_readZone_45 : decode c_Ref_readZone 45 = .ok (.getfield 78, 3) := by decide +kernel
theorem d_Ref_readZone_48 : decode c_Ref_readZone 48 = .ok (.iconst 1, 1) := by decide +kernel
theorem d_Ref_readZone_49 : decode c_Ref_readZone 49 = .ok (.iadd, 1) := by decide +kernel
theorem d_Ref_readZone_50 : decode c_Ref_readZone 50 = .ok (.putfield 78, 3) := by decide +kernel
theorem d_Ref_readZone_53 : decode c_Ref_readZone 53 = .ok (.aload_n 0, 1) := by decide +kernel
theorem d_Ref_readZone_54 : decode c_Ref_readZone 54 = .ok (.iconst 0, 1) := by decide +kernel
theorem d_Ref_readZone_55 : decode c_Ref_readZone 55 = .ok (.sipush 840, 3) := by decide +kernel
theorem d_Ref_readZone_58 : decode c_Ref_readZone 58 = .ok (.invokevirtual 102, 3) := by decide +kernel
theorem d_Ref_readZone_61 : decode c_Ref_readZone 61 = .ok (.istore_n 3, 1) := by decide +kernel
theorem d_Ref_readZone_62 : decode c_Ref_readZone 62 = .ok (.iload_n 2, 1) := by decide +kernel
theorem d_Ref_readZone_63 : decode c_Ref_readZone 63 = .ok (.ifCond .eq 6, 3) := by decide +kernel
theorem d_Ref_readZone_66 : decode c_Ref_readZone 66 = .ok (.iload_n 3, 1) := by decide +kernel
theorem d_Ref_readZone_67 : decode c_Ref_readZone 67 = .ok (.ineg, 1) := by decide +kernel
theorem d_Ref_readZone_68 : decode c_Ref_readZone 68 = .ok (.istore_n 3, 1) := by decide +kernel
theorem d_Ref_readZone_69 : decode c_Ref_readZone 69 = .ok (.iconst 0, 1) := by decide +kernel
theorem d_Ref_readZone_70 : decode c_Ref_readZone 70 = .ok (.istore 4, 2) := by decide +kernel
theorem d_Ref_readZone_72 : decode c_Ref_readZone 72 = .ok (.aload_n 0, 1) := by decide +kernel
theorem d_Ref_readZone_73 : decode c_Ref_readZone 73 = .ok (.getfield 78, 3) := by decide +kernel
theorem d_Ref_readZone_76 : decode c_Ref_readZone 76 = .ok (.aload_n 0, 1) := by decide +kernel
theorem d_Ref_readZone_77 : decode c_Ref_readZone 77 = .ok (.getfield 81, 3) := by decide +kernel
theorem d_Ref_readZone_80 : decode c_Ref_readZone 80 = .ok (.if_icmp .ge 53, 3) := by decide +kernel
theorem d_Ref_readZone_83 : decode c_Ref_readZone 83 = .ok (.aload_n 0, 1) := by decide +kernel
theorem d_Ref_readZone_84 : decode c_Ref_readZone 84 = .ok (.invokevirtual 112, 3) := by decide +kernel
theorem d_Ref_readZone_87 : decode c_Ref_readZone 87 = .ok (.aload_n 0, 1) := by decide +kernel
theorem d_Ref_readZone_88 : decode c_Ref_readZone 88 = .ok (.iconst 1, 1) := by decide +kernel
theorem d_Ref_readZone_89 : decode c_Ref_readZone 89 = .ok (.bipush 120, 2) := by decide +kernel
theorem d_Ref_readZone_91 : decode c_Ref_readZone 91 = .ok (.invokevirtual 102, 3) := by decide +kernel
theorem d_Ref_readZone_94 : decode c_Ref_readZone 94 = .ok (.istore 4, 2) := by decide +kernel
theorem d_Ref_readZone_96 : decode c_Ref_readZone 96 = .ok (.aload_n 0, 1) := by decide +kernel
theorem d_Ref_readZone_97 : decode c_Ref_readZone 97 = .ok (.invokevirtual 112, 3) := by decide +kernel
theorem d_Ref_readZone_100 : decode c_Ref_readZone 100 = .ok (.aload_n 0, 1) := by decide +kernel
theorem d_Ref_readZone_101 : decode c_Ref_readZone 101 = .ok (.iconst 0, 1) := by decide +kernel
theorem d_Ref_readZone_102 : decode c_Ref_readZone 102 = .ok (.invokevirtual 115, 3) := by decide +kernel
theorem d_Ref_readZone_105 : decode c_Ref_readZone 105 = .ok (.aload_n 0, 1) := by decide +kernel
theorem d_Ref_readZone_106 : decode c_Ref_readZone 106 = .ok (.invokevirtual 112, 3) := by decide +kernel
theorem d_Ref_readZone_109 : decode c_Ref_readZone 109 = .ok (.aload_n 0, 1) := by decide +kernel
theorem d_Ref_readZone_110 : decode c_Ref_readZone 110 = .ok (.iconst 4, 1) := by decide +kernel
theorem d_Ref_readZone_111 : decode c_Ref_readZone 111 = .ok (.invokevirtual 115, 3) := by decide +kernel
theorem d_Ref_readZone_114 : decode c_Ref_readZone 114 = .ok (.aload_n 0, 1) := by decide +kernel
theorem d_Ref_readZone_115 : decode c_Ref_readZone 115 = .ok (.getfield 78, 3) := by decide +kernel
theorem d_Ref_readZone_118 : decode c_Ref_readZone 118 = .ok (.aload_n 0, 1) := by decide +kernel
theorem d_Ref_readZone_119 : decode c_Ref_readZone 119 = .ok (.getfield 81, 3) := by decide +kernel
theorem d_Ref_readZone_122 : decode c_Ref_readZone 122 = .ok (.if_icmp .ge 11, 3) := by decide +kernel
theorem d_Ref_readZone_125 : decode c_Ref_readZone 125 = .ok (.aload_n 0, 1) := by decide +kernel
theorem d_Ref_readZone_126 : decode c_Ref_readZone 126 = .ok (.aload_n 0, 1) := by decide +kernel
theorem d_Ref_readZone_127 : decode c_Ref_readZone 127 = .ok (.getfield 78, 3) := by decide +kernel
theorem d_Ref_readZone_130 : decode c_Ref_readZone 130 = .ok (.invokevirtual 88, 3) := by decide +kernel
theorem d_Ref_readZone_133 : decode c_Ref_readZone 133 = .ok (.aload_n 0, 1) := by decide +kernel
theorem d_Ref_readZone_134 : decode c_Ref_readZone 134 = .ok (.getfield 17, 3) := by decide +kernel
theorem d_Ref_readZone_137 : decode c_Ref_readZone 137 = .ok (.iload_n 1, 1) := by decide +kernel
theorem d_Ref_readZone_138 : decode c_Ref_readZone 138 = .ok (.iload_n 3, 1) := by decide +kernel
theorem d_Ref_readZone_139 : decode c_Ref_readZone 139 = .ok (.iastore, 1) := by decide +kernel
theorem d_Ref_readZone_140 : decode c_Ref_readZone 140 = .ok (.aload_n 0, 1) := by decide +kernel
theorem d_Ref_readZone_141 : decode c_Ref_readZone 141 = .ok (.getfield 21, 3) := by decide +kernel
theorem d_Ref_readZone_144 : decode c_Ref_readZone 144 = .ok (.iload_n 1, 1) := by decide +kernel
theorem d_Ref_readZone_145 : decode c_Ref_readZone 145 = .ok (.iload 4, 2) := by decide +kernel
theorem d_Ref_readZone_147 : decode c_Ref_readZone 147 = .ok (.iastore, 1) := by decide +kernel
theorem d_Ref_readZone_148 : decode c_Ref_readZone 148 = .ok (.aload_n 0, 1) := by decide +kernel
theorem d_Ref_readZone_149 : decode c_Ref_readZone 149 = .ok (.getfield 34, 3) := by decide +kernel
theorem d_Ref_readZone_152 : decode c_Ref_readZone 152 = .ok (.iload_n 1, 1) := by decide +kernel
theorem d_Ref_readZone_153 : decode c_Ref_readZone 153 = .ok (.iconst 0, 1) := by decide +kernel
theorem d_Ref_readZone_154 : decode c_Ref_readZone 154 = .ok (.iastore, 1) := by decide +kernel
theorem d_Ref_readZone_155 : decode c_Ref_readZone 155 = .ok (.iload 4, 2) := by decide +kernel
theorem d_Ref_readZone_157 : decode c_Ref_readZone 157 = .ok (.ifCond .ne 4, 3) := by decide +kernel
theorem d_Ref_readZone_160 : decode c_Ref_readZone 160 = .ok (.return_, 1) := by decide +kernel
theorem d_Ref_readZone_161 : decode c_Ref_readZone 161 = .ok (.sipush 1970, 3) := by decide +kernel
theorem d_Ref_readZone_164 : decode c_Ref_readZone 164 = .ok (.istore 5, 2) := by decide +kernel
theorem d_Ref_readZone_166 : decode c_Ref_readZone 166 = .ok (.iload 5, 2) := by decide +kernel
theorem d_Ref_readZone_168 : decode c_Ref_readZone 168 = .ok (.sipush 2299, 3) := by decide +kernel
theorem d_Ref_readZone_171 : decode c_Ref_readZone 171 = .ok (.if_icmp .gt 77, 3) := by decide +kernel
theorem d_Ref_readZone_174 : decode c_Ref_readZone 174 = .ok (.aload_n 0, 1) := by decide +kernel
theorem d_Ref_readZone_175 : decode c_Ref_readZone 175 = .ok (.iload_n 1, 1) := by decide +kernel
theorem d_Ref_readZone_176 : decode c_Ref_readZone 176 = .ok (.aload_n 0, 1) := by decide +kernel
theorem d_Ref_readZone_177 : decode c_Ref_readZone 177 = .ok (.iconst 0, 1) := by decide +kernel
theorem d_Ref_readZone_178 : decode c_Ref_readZone 178 = .ok (.iload 5, 2) := by decide +kernel
theorem d_Ref_readZone_180 : decode c_Ref_readZone 180 = .ok (.invokevirtual 117, 3) := by decide +kernel
theorem d_Ref_readZone_183 : decode c_Ref_readZone 183 = .ok (.i2l, 1) := by decide +kernel
theorem d_Ref_readZone_184 : decode c_Ref_readZone 184 = .ok (.ldc2_w 120, 3) := by decide +kernel
theorem d_Ref_readZone_187 : decode c_Ref_readZone 187 = .ok (.lmul, 1) := by decide +kernel
theorem d_Ref_readZone_188 : decode c_Ref_readZone 188 = .ok (.ldc2_w 122, 3) := by decide +kernel
theorem d_Ref_readZone_191 : decode c_Ref_readZone 191 = .ok (.aload_n 0, 1) := by decide +kernel
theorem d_Ref_readZone_192 : decode c_Ref_readZone 192 = .ok (.getfield 37, 3) := by decide +kernel
theorem d_Ref_readZone_195 : decode c_Ref_readZone 195 = .ok (.iconst 3, 1) := by decide +kernel
theorem d_Ref_readZone_196 : decode c_Ref_readZone 196 = .ok (.iaload, 1) := by decide +kernel
theorem d_Ref_readZone_197 : decode c_Ref_readZone 197 = .ok (.iload_n 3, 1) := by decide +kernel
theorem d_Ref_readZone_198 : decode c_Ref_readZone 198 = .ok (.isub, 1) := by decide +kernel
theorem d_Ref_readZone_199 : decode c_Ref_readZone 199 = .ok (.i2l, 1) := by decide +kernel
theorem d_Ref_readZone_200 : decode c_Ref_readZone 200 = .ok (.lmul, 1) := by decide +kernel
theorem d_Ref_readZone_201 : decode c_Ref_readZone 201 = .ok (.ladd, 1) := by decide +kernel
theorem d_Ref_readZone_202 : decode c_Ref_readZone 202 = .ok (.iconst 1, 1) := by decide +kernel
theorem d_Ref_readZone_203 : decode c_Ref_readZone 203 = .ok (.invokevirtual 124, 3) := by decide +kernel
theorem d_Ref_readZone_206 : decode c_Ref_readZone 206 = .ok (.aload_n 0, 1) := by decide +kernel
theorem d_Ref_readZone_207 : decode c_Ref_readZone 207 = .ok (.iload_n 1, 1) := by decide +kernel
theorem d_Ref_readZone_208 : decode c_Ref_readZone 208 = .ok (.aload_n 0, 1) := by decide +kernel
theorem d_Ref_readZone_209 : decode c_Ref_readZone 209 = .ok (.iconst 4, 1) := by decide +kernel
theorem d_Ref_readZone_210 : decode c_Ref_readZone 210 = .ok (.iload 5, 2) := by decide +kernel
theorem d_Ref_readZone_212 : decode c_Ref_readZone 212 = .ok (.invokevirtual 117, 3) := by decide +kernel
theorem d_Ref_readZone_215 : decode c_Ref_readZone 215 = .ok (.i2l, 1) := by decide +kernel
theorem d_Ref_readZone_216 : decode c_Ref_readZone 216 = .ok (.ldc2_w 120, 3) := by decide +kernel
theorem d_Ref_readZone_219 : decode c_Ref_readZone 219 = .ok (.lmul, 1) := by decide +kernel
theorem d_Ref_readZone_220 : decode c_Ref_readZone 220 = .ok (.ldc2_w 122, 3) := by decide +kernel
theorem d_Ref_readZone_223 : decode c_Ref_readZone 223 = .ok (.aload_n 0, 1) := by decide +kernel
theorem d_Ref_readZone_224 : decode c_Ref_readZone 224 = .ok (.getfield 37, 3) := by decide +kernel
theorem d_Ref_readZone_227 : decode c_Ref_readZone 227 = .ok (.bipush 7, 2) := by decide +kernel
theorem d_Ref_readZone_229 : decode c_Ref_readZone 229 = .ok (.iaload, 1) := by decide +kernel
theorem d_Ref_readZone_230 : decode c_Ref_readZone 230 = .ok (.iload_n 3, 1) := by decide +kernel
theorem d_Ref_readZone_231 : decode c_Ref_readZone 231 = .ok (.isub, 1) := by decide +kernel
theorem d_Ref_readZone_232 : decode c_Ref_readZone 232 = .ok (.iload 4, 2) := by decide +kernel
theorem d_Ref_readZone_234 : decode c_Ref_readZone 234 = .ok (.isub, 1) := by decide +kernel
theorem d_Ref_readZone_235 : decode c_Ref_readZone 235 = .ok (.i2l, 1) := by decide +kernel
theorem d_Ref_readZone_236 : decode c_Ref_readZone 236 = .ok (.lmul, 1) := by decide +kernel
theorem d_Ref_readZone_237 : decode c_Ref_readZone 237 = .ok (.ladd, 1) := by decide +kernel
theorem d_Ref_readZone_238 : decode c_Ref_readZone 238 = .ok (.iconst 0, 1) := by decide +kernel
theorem d_Ref_readZone_239 : decode c_Ref_readZone 239 = .ok (.invokevirtual 124, 3) := by decide +kernel
theorem d_Ref_readZone_242 : decode c_Ref_readZone 242 = .ok (.iinc 5 1, 3) := by decide +kernel
theorem d_Ref_readZone_245 : decode c_Ref_readZone 245 = .ok (.goto (-79), 3) := by decide +kernel
theorem d_Ref_readZone_248 : decode c_Ref_readZone 248 = .ok (.return_, 1) := by decide +kernel
theorem d_Ref_peek_0 : decode c_Ref_peek 0 = .ok (.aload_n 0, 1) := by decide +kernel
theorem d_Ref_peek_1 : decode c_Ref_peek 1 = .ok (.getfield 78, 3) := by decide +kernel
theorem d_Ref_peek_4 : decode c_Ref_peek 4 = .ok (.aload_n 0, 1) := by decide +kernel
theorem d_Ref_peek_5 : decode c_Ref_peek 5 = .ok (.getfield 81, 3) := by decide +kernel
theorem d_Ref_peek_8 : decode c_Ref_peek 8 = .ok (.if_icmp .ge 19, 3) := by decide +kernel
theorem d_Ref_peek_11 : decode c_Ref_peek 11 = .ok (.aload_n 0, 1) := by decide +kernel
theorem d_Ref_peek_12 : decode c_Ref_peek 12 = .ok (.getfield 7, 3) := by decide +kernel
theorem d_Ref_peek_15 : decode c_Ref_peek 15 = .ok (.aload_n 0, 1) := by decide +kernel
theorem d_Ref_peek_16 : decode c_Ref_peek 16 = .ok (.getfield 78, 3) := by decide +kernel
theorem d_Ref_peek_19 : decode c_Ref_peek 19 = .ok (.baload, 1) := by decide +kernel
theorem d_Ref_peek_20 : decode c_Ref_peek 20 = .ok (.sipush 255, 3) := by decide +kernel
theorem d_Ref_peek_23 : decode c_Ref_peek 23 = .ok (.iand, 1) := by decide +kernel
theorem d_Ref_peek_24 : decode c_Ref_peek 24 = .ok (.goto 4, 3) := by decide +kernel
theorem d_Ref_peek_27 : decode c_Ref_peek 27 = .ok (.iconst (-1), 1) := by decide +kernel
theorem d_Ref_peek_28 : decode c_Ref_peek 28 = .ok (.ireturn, 1) := by decide +kernel
theorem d_Ref_bad_0 : decode c_Ref_bad 0 = .ok (.aload_n 0, 1) := by decide +kernel
theorem d_Ref_bad_1 : decode c_Ref_bad 1 = .ok (.iload_n 1, 1) := by decide +kernel
theorem d_Ref_bad_2 : decode c_Ref_bad 2 = .ok (.putfield 13, 3) := by decide +kernel
theorem d_Ref_bad_5 : decode c_Ref_bad 5 = .ok (.new 75, 3) := by decide +kernel
theorem d_Ref_bad_8 : decode c_Ref_bad 8 = .ok (.dup, 1) := by decide +kernel
theorem d_Ref_bad_9 : decode c_Ref_bad 9 = .ok (.invokespecial 77, 3) := by decide +kernel
theorem d_Ref_bad_12 : decode c_Ref_bad 12 = .ok (.athrow, 1) := by decide +kernel
theorem d_Ref_ranged_0 : decode c_Ref_ranged 0 = .ok (.aload_n 0, 1) := by decide +kernel
theorem d_Ref_ranged_1 : decode c_Ref_ranged 1 = .ok (.getfield 78, 3) := by decide +kernel
theorem d_Ref_ranged_4 : decode c_Ref_ranged 4 = .ok (.istore_n 3, 1) := by decide +kernel
theorem d_Ref_ranged_5 : decode c_Ref_ranged 5 = .ok (.aload_n 0, 1) := by decide +kernel
theorem d_Ref_ranged_6 : decode c_Ref_ranged 6 = .ok (.invokevirtual 84, 3) := by decide +kernel
theorem d_Ref_ranged_9 : decode c_Ref_ranged 9 = .ok (.invokestatic 92, 3) := by decide +kernel
theorem d_Ref_ranged_12 : decode c_Ref_ranged 12 = .ok (.ifCond .ne 11, 3) := by decide +kernel
theorem d_Ref_ranged_15 : decode c_Ref_ranged 15 = .ok (.aload_n 0, 1) := by decide +kernel
theorem d_Ref_ranged_16 : decode c_Ref_ranged 16 = .ok (.aload_n 0, 1) := by decide +kernel
theorem d_Ref_ranged_17 : decode c_Ref_ranged 17 = .ok (.getfield 78, 3) := by decide +kernel
theorem d_Ref_ranged_20 : decode c_Ref_ranged 20 = .ok (.invokevirtual 88, 3) := by decide +kernel
theorem d_Ref_ranged_23 : decode c_Ref_ranged 23 = .ok (.iconst 0, 1) := by decide +kernel
theorem d_Ref_ranged_24 : decode c_Ref_ranged 24 = .ok (.istore 4, 2) := by decide +kernel
theorem d_Ref_ranged_26 : decode c_Ref_ranged 26 = .ok (.aload_n 0, 1) := by decide +kernel
theorem d_Ref_ranged_27 : decode c_Ref_ranged 27 = .ok (.invokevirtual 84, 3) := by decide +kernel
theorem d_Ref_ranged_30 : decode c_Ref_ranged 30 = .ok (.bipush 48, 2) := by decide +kernel
theorem d_Ref_ranged_32 : decode c_Ref_ranged 32 = .ok (.if_icmp .ne 16, 3) := by decide +kernel
theorem d_Ref_ranged_35 : decode c_Ref_ranged 35 = .ok (.aload_n 0, 1) := by decide +kernel
theorem d_Ref_ranged_36 : decode c_Ref_ranged 36 = .ok (.dup, 1) := by decide +kernel
theorem d_Ref_ranged_37 : decode c_Ref_ranged 37 = .ok (.getfield 78, 3) := by decide +kernel
theorem d_Ref_ranged_40 : decode c_Ref_ranged 40 = .ok (.iconst 1, 1) := by decide +kernel
theorem d_Ref_ranged_41 : decode c_Ref_ranged 41 = .ok (.iadd, 1) := by decide +kernel
theorem d_Ref_ranged_42 : decode c_Ref_ranged 42 = .ok (.putfield 78, 3) := by decide +kernel
theorem d_Ref_ranged_45 : decode c_Ref_ranged 45 = .ok (.goto 46, 3) := by decide +kernel
theorem d_Ref_ranged_48 : decode c_Ref_ranged 48 = .ok (.aload_n 0, 1) := by decide +kernel
theorem d_Ref_ranged_49 : decode c_Ref_ranged 49 = .ok (.invokevirtual 84, 3) := by decide +kernel
theorem d_Ref_ranged_52 : decode c_Ref_ranged 52 = .ok (.invokestatic 92, 3) := by decide +kernel
theorem d_Ref_ranged_55 : decode c_Ref_ranged 55 = .ok (.ifCond .eq 36, 3) := by decide +kernel
theorem d_Ref_ranged_58 : decode c_Ref_ranged 58 = .ok (.bipush 10, 2) := by decide +kernel
theorem d_Ref_ranged_60 : decode c_Ref_ranged 60 = .ok (.iload 4, 2) := by decide +kernel
theorem d_Ref_ranged_62 : decode c_Ref_ranged 62 = .ok (.imul, 1) := by decide +kernel
theorem d_Ref_ranged_63 : decode c_Ref_ranged 63 = .ok (.aload_n 0, 1) := by decide +kernel
theorem d_Ref_ranged_64 : decode c_Ref_ranged 64 = .ok (.invokevirtual 84, 3) := by decide +kernel
theorem d_Ref_ranged_67 : decode c_Ref_ranged 67 = .ok (.iadd, 1) := by decide +kernel
theorem d_Ref_ranged_68 : decode c_Ref_ranged 68 = .ok (.bipush 48, 2) := by decide +kernel
theorem d_Ref_ranged_70 : decode c_Ref_ranged 70 = .ok (.isub, 1) := by decide +kernel
theorem d_Ref_ranged_71 : decode c_Ref_ranged 71 = .ok (.ldc 95, 2) := by decide +kernel
theorem d_Ref_ranged_73 : decode c_Ref_ranged 73 = .ok (.invokestatic 96, 3) := by decide +kernel
theorem d_Ref_ranged_76 : decode c_Ref_ranged 76 = .ok (.istore 4, 2) := by decide +kernel
theorem d_Ref_ranged_78 : decode c_Ref_ranged 78 = .ok (.aload_n 0, 1) := by decide +kernel
theorem d_Ref_ranged_79 : decode c_Ref_ranged 79 = .ok (.dup, 1) := by decide +kernel
theorem d_Ref_ranged_80 : decode c_Ref_ranged 80 = .ok (.getfield 78, 3) := by decide +kernel
theorem d_Ref_ranged_83 : decode c_Ref_ranged 83 = .ok (.iconst 1, 1) := by decide +kernel
theorem d_Ref_ranged_84 : decode c_Ref_ranged 84 = .ok (.iadd, 1) := by decide +kernel
theorem d_Ref_ranged_85 : decode c_Ref_ranged 85 = .ok (.putfield 78, 3) := by decide +kernel
theorem d_Ref_ranged_88 : decode c_Ref_ranged 88 = .ok (.goto (-40), 3) := by decide +kernel
theorem d_Ref_ranged_91 : decode c_Ref_ranged 91 = .ok (.iload 4, 2) := by decide +kernel
theorem d_Ref_ranged_93 : decode c_Ref_ranged 93 = .ok (.iload_n 1, 1) := by decide +kernel
theorem d_Ref_ranged_94 : decode c_Ref_ranged 94 = .ok (.if_icmp .lt 9, 3) := by decide +kernel
theorem d_Ref_ranged_97 : decode c_Ref_ranged 97 = .ok (.iload 4, 2) := by decide +kernel
theorem d_Ref_ranged_99 : decode c_Ref_ranged 99 = .ok (.iload_n 2, 1) := by decide +kernel
theorem d_Ref_ranged_100 : decode c_Ref_ranged 100 = .ok (.if_icmp .le 8, 3) := by decide +kernel
theorem d_Ref_ranged_103 : decode c_Ref_ranged 103 = .ok (.aload_n 0, 1) := by decide +kernel
theorem d_Ref_ranged_104 : decode c_Ref_ranged 104 = .ok (.iload_n 3, 1) := by decide +kernel
theorem d_Ref_ranged_105 : decode c_Ref_ranged 105 = .ok (.invokevirtual 88, 3) := by decide +kernel
theorem d_Ref_ranged_108 : decode c_Ref_ranged 108 = .ok (.iload 4, 2) := by decide +kernel
theorem d_Ref_ranged_110 : decode c_Ref_ranged 110 = .ok (.ireturn, 1) := by decide +kernel
theorem d_Ref_digit_0 : decode c_Ref_digit 0 = .ok (.iload_n 0, 1) := by decide +kernel
theorem d_Ref_digit_1 : decode c_Ref_digit 1 = .ok (.bipush 48, 2) := by decide +kernel
theorem d_Ref_digit_3 : decode c_Ref_digit 3 = .ok (.if_icmp .lt 13, 3) := by decide +kernel
theorem d_Ref_digit_6 : decode c_Ref_digit 6 = .ok (.iload_n 0, 1) := by decide +kernel
theorem d_Ref_digit_7 : decode c_Ref_digit 7 = .ok (.bipush 57, 2) := by decide +kernel
theorem d_Ref_digit_9 : decode c_Ref_digit 9 = .ok (.if_icmp .gt 7, 3) := by decide +kernel
theorem d_Ref_digit_12 : decode c_Ref_digit 12 = .ok (.iconst 1, 1) := by decide +kernel
theorem d_Ref_digit_13 : decode c_Ref_digit 13 = .ok (.goto 4, 3) := by decide +kernel
theorem d_Ref_digit_16 : decode c_Ref_digit 16 = .ok (.iconst 0, 1) := by decide +kernel
theorem d_Ref_digit_17 : decode c_Ref_digit 17 = .ok (.ireturn, 1) := by decide +kernel
theorem d_Ref_blanks_0 : decode c_Ref_blanks 0 = .ok (.aload_n 0, 1) := by decide +kernel
theorem d_Ref_blanks_1 : decode c_Ref_blanks 1 = .ok (.invokevirtual 84, 3) := by decide +kernel
theorem d_Ref_blanks_4 : decode c_Ref_blanks 4 = .ok (.bipush 32, 2) := by decide +kernel
theorem d_Ref_blanks_6 : decode c_Ref_blanks 6 = .ok (.if_icmp .eq 11, 3) := by decide +kernel
theorem d_Ref_blanks_9 : decode c_Ref_blanks 9 = .ok (.aload_n 0, 1) := by decide +kernel
theorem d_Ref_blanks_10 : decode c_Ref_blanks 10 = .ok (.aload_n 0, 1) := by decide +kernel
theorem d_Ref_blanks_11 : decode c_Ref_blanks 11 = .ok (.getfield 78, 3) := by decide +kernel
theorem d_Ref_blanks_14 : decode c_Ref_blanks 14 = .ok (.invokevirtual 88, 3) := by decide +kernel
theorem d_Ref_blanks_17 : decode c_Ref_blanks 17 = .ok (.aload_n 0, 1) := by decide +kernel
theorem d_Ref_blanks_18 : decode c_Ref_blanks 18 = .ok (.invokevirtual 84, 3) := by decide +kernel
theorem d_Ref_blanks_21 : decode c_Ref_blanks 21 = .ok (.bipush 32, 2) := by decide +kernel
theorem d_Ref_blanks_23 : decode c_Ref_blanks 23 = .ok (.if_icmp .ne 16, 3) := by decide +kernel
theorem d_Ref_blanks_26 : decode c_Ref_blanks 26 = .ok (.aload_n 0, 1) := by decide +kernel
theorem d_Ref_blanks_27 : decode c_Ref_blanks 27 = .ok (.dup, 1) := by decide +kernel
theorem d_Ref_blanks_28 : decode c_Ref_blanks 28 = .ok (.getfield 78, 3) := by decide +kernel
theorem d_Ref_blanks_31 : decode c_Ref_blanks 31 = .ok (.iconst 1, 1) := by decide +kernel
theorem d_Ref_blanks_32 : decode c_Ref_blanks 32 = .ok (.iadd, 1) := by decide +kernel
theorem d_Ref_blanks_33 : decode c_Ref_blanks 33 = .ok (.putfield 78, 3) := by decide +kernel
theorem d_Ref_blanks_36 : decode c_Ref_blanks 36 = .ok (.goto (-19), 3) := by decide +kernel
theorem d_Ref_blanks_39 : decode c_Ref_blanks 39 = .ok (.return_, 1) := by decide +kernel
theorem d_Ref_rule_0 : decode c_Ref_rule 0 = .ok (.aload_n 0, 1) := by decide +kernel
theorem d_Ref_rule_1 : decode c_Ref_rule 1 = .ok (.bipush 77, 2) := by decide +kernel
theorem d_Ref_rule_3 : decode c_Ref_rule 3 = .ok (.invokevirtual 99, 3) := by decide +kernel
theorem d_Ref_rule_6 : decode c_Ref_rule 6 = .ok (.aload_n 0, 1) := by decide +kernel
theorem d_Ref_rule_7 : decode c_Ref_rule 7 = .ok (.getfield 37, 3) := by decide +kernel
theorem d_Ref_rule_10 : decode c_Ref_rule 10 = .ok (.iload_n 1, 1) := by decide +kernel
theorem d_Ref_rule_11 : decode c_Ref_rule 11 = .ok (.aload_n 0, 1) := by decide +kernel
theorem d_Ref_rule_12 : decode c_Ref_rule 12 = .ok (.iconst 1, 1) := by decide +kernel
theorem d_Ref_rule_13 : decode c_Ref_rule 13 = .ok (.bipush 12, 2) := by decide +kernel
theorem d_Ref_rule_15 : decode c_Ref_rule 15 = .ok (.invokevirtual 102, 3) := by decide +kernel
theorem d_Ref_rule_18 : decode c_Ref_rule 18 = .ok (.iastore, 1) := by decide +kernel
theorem d_Ref_rule_19 : decode c_Ref_rule 19 = .ok (.aload_n 0, 1) := by decide +kernel
theorem d_Ref_rule_20 : decode c_Ref_rule 20 = .ok (.bipush 46, 2) := by decide +kernel
theorem d_Ref_rule_22 : decode c_Ref_rule 22 = .ok (.invokevirtual 99, 3) := by decide +kernel
theorem d_Ref_rule_25 : decode c_Ref_rule 25 = .ok (.aload_n 0, 1) := by decide +kernel
theorem d_Ref_rule_26 : decode c_Ref_rule 26 = .ok (.getfield 37, 3) := by decide +kernel
theorem d_Ref_rule_29 : decode c_Ref_rule 29 = .ok (.iload_n 1, 1) := by decide +kernel
theorem d_Ref_rule_30 : decode c_Ref_rule 30 = .ok (.iconst 1, 1) := by decide +kernel
theorem d_Ref_rule_31 : decode c_Ref_rule 31 = .ok (.iadd, 1) := by decide +kernel
theorem d_Ref_rule_32 : decode c_Ref_rule 32 = .ok (.aload_n 0, 1) := by decide +kernel
theorem d_Ref_rule_33 : decode c_Ref_rule 33 = .ok (.iconst 1, 1) := by decide +kernel
theorem d_Ref_rule_34 : decode c_Ref_rule 34 = .ok (.iconst 5, 1) := by decide +kernel
theorem d_Ref_rule_35 : decode c_Ref_rule 35 = .ok (.invokevirtual 102, 3) := by decide +kernel
theorem d_Ref_rule_38 : decode c_Ref_rule 38 = .ok (.iastore, 1) := by decide +kernel
theorem d_Ref_rule_39 : decode c_Ref_rule 39 = .ok (.aload_n 0, 1) := by decide +kernel
theorem d_Ref_rule_40 : decode c_Ref_rule 40 = .ok (.bipush 46, 2) := by decide +kernel
theorem d_Ref_rule_42 : decode c_Ref_rule 42 = .ok (.invokevirtual 99, 3) := by decide +kernel
theorem d_Ref_rule_45 : decode c_Ref_rule 45 = .ok (.aload_n 0, 1) := by decide +kernel
theorem d_Ref_rule_46 : decode c_Ref_rule 46 = .ok (.getfield 37, 3) := by decide +kernel
theorem d_Ref_rule_49 : decode c_Ref_rule 49 = .ok (.iload_n 1, 1) := by decide +kernel
theorem d_Ref_rule_50 : decode c_Ref_rule 50 = .ok (.iconst 2, 1) := by decide +kernel
theorem d_Ref_rule_51 : decode c_Ref_rule 51 = .ok (.iadd, 1) := by decide +kernel
theorem d_Ref_rule_52 : decode c_Ref_rule 52 = .ok (.aload_n 0, 1) := by decide +kernel
theorem d_Ref_rule_53 : decode c_Ref_rule 53 = .ok (.iconst 0, 1) := by decide +kernel
theorem d_Ref_rule_54 : decode c_Ref_rule 54 = .ok (.bipush 6, 2) := by decide +kernel
theorem d_Ref_rule_56 : decode c_Ref_rule 56 = .ok (.invokevirtual 102, 3) := by decide +kernel
theorem d_Ref_rule_59 : decode c_Ref_rule 59 = .ok (.iastore, 1) := by decide +kernel
theorem d_Ref_rule_60 : decode c_Ref_rule 60 = .ok (.aload_n 0, 1) := by decide +kernel
theorem d_Ref_rule_61 : decode c_Ref_rule 61 = .ok (.bipush 47, 2) := by decide +kernel
theorem d_Ref_rule_63 : decode c_Ref_rule 63 = .ok (.invokevirtual 99, 3) := by decide +kernel
theorem d_Ref_rule_66 : decode c_Ref_rule 66 = .ok (.aload_n 0, 1) := by decide +kernel
theorem d_Ref_rule_67 : decode c_Ref_rule 67 = .ok (.getfield 37, 3) := by decide +kernel
theorem d_Ref_rule_70 : decode c_Ref_rule 70 = .ok (.iload_n 1, 1) := by decide +kernel
theorem d_Ref_rule_71 : decode c_Ref_rule 71 = .ok (.iconst 3, 1) := by decide +kernel
theorem d_Ref_rule_72 : decode c_Ref_rule 72 = .ok (.iadd, 1) := by decide +kernel
theorem d_Ref_rule_73 : decode c_Ref_rule 73 = .ok (.aload_n 0, 1) := by decide +kernel
theorem d_Ref_rule_74 : decode c_Ref_rule 74 = .ok (.iconst 0, 1) := by decide +kernel
theorem d_Ref_rule_75 : decode c_Ref_rule 75 = .ok (.sipush 1439, 3) := by decide +kernel
theorem d_Ref_rule_78 : decode c_Ref_rule 78 = .ok (.invokevirtual 102, 3) := by decide +kernel
theorem d_Ref_rule_81 : decode c_Ref_rule 81 = .ok (.iastore, 1) := by decide +kernel
theorem d_Ref_rule_82 : decode c_Ref_rule 82 = .ok (.return_, 1) := by decide +kernel
theorem d_Ref_expect_0 : decode c_Ref_expect 0 = .ok (.aload_n 0, 1) := by decide +kernel
theorem d_Ref_expect_1 : decode c_Ref_expect 1 = .ok (.invokevirtual 84, 3) := by decide +kernel
theorem d_Ref_expect_4 : decode c_Ref_expect 4 = .ok (.iload_n 1, 1) := by decide +kernel
theorem d_Ref_expect_5 : decode c_Ref_expect 5 = .ok (.if_icmp .eq 11, 3) := by decide +kernel
theorem d_Ref_expect_8 : decode c_Ref_expect 8 = .ok (.aload_n 0, 1) := by decide +kernel
theorem d_Ref_expect_9 : decode c_Ref_expect 9 = .ok (.aload_n 0, 1) := by decide +kernel
theorem d_Ref_expect_10 : decode c_Ref_expect 10 = .ok (.getfield 78, 3) := by decide +kernel
theorem d_Ref_expect_13 : decode c_Ref_expect 13 = .ok (.invokevirtual 88, 3) := by decide +kernel
theorem d_Ref_expect_16 : decode c_Ref_expect 16 = .ok (.aload_n 0, 1) := by decide +kernel
theorem d_Ref_expect_17 : decode c_Ref_expect 17 = .ok (.dup, 1) := by decide +kernel
theorem d_Ref_expect_18 : decode c_Ref_expect 18 = .ok (.getfield 78, 3) := by decide +kernel
theorem d_Ref_expect_21 : decode c_Ref_expect 21 = .ok (.iconst 1, 1) := by decide +kernel
theorem d_Ref_expect_22 : decode c_Ref_expect 22 = .ok (.iadd, 1) := by decide +kernel
theorem d_Ref_expect_23 : decode c_Ref_expect 23 = .ok (.putfield 78, 3) := by decide +kernel
theorem d_Ref_expect_26 : decode c_Ref_expect 26 = .ok (.return_, 1) := by decide +kernel
theorem d_Ref_ruleDay_0 : decode c_Ref_ruleDay 0 = .ok (.iload_n 2, 1) := by decide +kernel
theorem d_Ref_ruleDay_1 : decode c_Ref_ruleDay 1 = .ok (.aload_n 0, 1) := by decide +kernel
theorem d_Ref_ruleDay_2 : decode c_Ref_ruleDay 2 = .ok (.getfield 37, 3) := by decide +kernel
theorem d_Ref_ruleDay_5 : decode c_Ref_ruleDay 5 = .ok (.iload_n 1, 1) := by decide +kernel
theorem d_Ref_ruleDay_6 : decode c_Ref_ruleDay 6 = .ok (.iaload, 1) := by decide +kernel
theorem d_Ref_ruleDay_7 : decode c_Ref_ruleDay 7 = .ok (.invokestatic 63, 3) := by decide +kernel
theorem d_Ref_ruleDay_10 : decode c_Ref_ruleDay 10 = .ok (.istore_n 3, 1) := by decide +kernel
theorem d_Ref_ruleDay_11 : decode c_Ref_ruleDay 11 = .ok (.iload_n 3, 1) := by decide +kernel
theorem d_Ref_ruleDay_12 : decode c_Ref_ruleDay 12 = .ok (.aload_n 0, 1) := by decide +kernel
theorem d_Ref_ruleDay_13 : decode c_Ref_ruleDay 13 = .ok (.getfield 37, 3) := by decide +kernel
theorem d_Ref_ruleDay_16 : decode c_Ref_ruleDay 16 = .ok (.iload_n 1, 1) := by decide +kernel
theorem d_Ref_ruleDay_17 : decode c_Ref_ruleDay 17 = .ok (.iconst 2, 1) := by decide +kernel
theorem d_Ref_ruleDay_18 : decode c_Ref_ruleDay 18 = .ok (.iadd, 1) := by decide +kernel
theorem d_Ref_ruleDay_19 : decode c_Ref_ruleDay 19 = .ok (.iaload, 1) := by decide +kernel
theorem d_Ref_ruleDay_20 : decode c_Ref_ruleDay 20 = .ok (.iconst 1, 1) := by decide +kernel
theorem d_Ref_ruleDay_21 : decode c_Ref_ruleDay 21 = .ok (.iadd, 1) := by decide +kernel
theorem d_Ref_ruleDay_22 : decode c_Ref_ruleDay 22 = .ok (.iload_n 3, 1) := by decide +kernel
theorem d_Ref_ruleDay_23 : decode c_Ref_ruleDay 23 = .ok (.invokestatic 105, 3) := by decide +kernel
theorem d_Ref_ruleDay_26 : decode c_Ref_ruleDay 26 = .ok (.isub, 1) := by decide +kernel
theorem d_Ref_ruleDay_27 : decode c_Ref_ruleDay 27 = .ok (.bipush 7, 2) := by decide +kernel
theorem d_Ref_ruleDay_29 : decode c_Ref_ruleDay 29 = .ok (.invokestatic 72, 3) := by decide +kernel
theorem d_Ref_ruleDay_32 : decode c_Ref_ruleDay 32 = .ok (.iadd, 1) := by decide +kernel
theorem d_Ref_ruleDay_33 : decode c_Ref_ruleDay 33 = .ok (.bipush 7, 2) := by decide +kernel
theorem d_Ref_ruleDay_35 : decode c_Ref_ruleDay 35 = .ok (.aload_n 0, 1) := by decide +kernel
theorem d_Ref_ruleDay_36 : decode c_Ref_ruleDay 36 = .ok (.getfield 37, 3) := by decide +kernel
theorem d_Ref_ruleDay_39 : decode c_Ref_ruleDay 39 = .ok (.iload_n 1, 1) := by decide +kernel
theorem d_Ref_ruleDay_40 : decode c_Ref_ruleDay 40 = .ok (.iconst 1, 1) := by decide +kernel
theorem d_Ref_ruleDay_41 : decode c_Ref_ruleDay 41 = .ok (.iadd, 1) := by decide +kernel
theorem d_Ref_ruleDay_42 : decode c_Ref_ruleDay 42 = .ok (.iaload, 1) := by decide +kernel
theorem d_Ref_ruleDay_43 : decode c_Ref_ruleDay 43 = .ok (.iconst 1, 1) := by decide +kernel
theorem d_Ref_ruleDay_44 : decode c_Ref_ruleDay 44 = .ok (.isub, 1) := by decide +kernel
theorem d_Ref_ruleDay_45 : decode c_Ref_ruleDay 45 = .ok (.imul, 1) := by decide +kernel
theorem d_Ref_ruleDay_46 : decode c_Ref_ruleDay 46 = .ok (.iadd, 1) := by decide +kernel
theorem d_Ref_ruleDay_47 : decode c_Ref_ruleDay 47 = .ok (.istore 4, 2) := by decide +kernel
theorem d_Ref_ruleDay_49 : decode c_Ref_ruleDay 49 = .ok (.iload 4, 2) := by decide +kernel
theorem d_Ref_ruleDay_51 : decode c_Ref_ruleDay 51 = .ok (.iload_n 3, 1) := by decide +kernel
theorem d_Ref_ruleDay_52 : decode c_Ref_ruleDay 52 = .ok (.iload_n 2, 1) := by decide +kernel
theorem d_Ref_ruleDay_53 : decode c_Ref_ruleDay 53 = .ok (.aload_n 0, 1) := by decide +kernel
theorem d_Ref_ruleDay_54 : decode c_Ref_ruleDay 54 = .ok (.getfield 37, 3) := by decide +kernel
theorem d_Ref_ruleDay_57 : decode c_Ref_ruleDay 57 = .ok (.iload_n 1, 1) := by decide +kernel
theorem d_Ref_ruleDay_58 : decode c_Ref_ruleDay 58 = .ok (.iaload, 1) := by decide +kernel
theorem d_Ref_ruleDay_59 : decode c_Ref_ruleDay 59 = .ok (.invokestatic 51, 3) := by decide +kernel
theorem d_Ref_ruleDay_62 : decode c_Ref_ruleDay 62 = .ok (.iadd, 1) := by decide +kernel
theorem d_Ref_ruleDay_63 : decode c_Ref_ruleDay 63 = .ok (.if_icmp .lt 11, 3) := by decide +kernel
theorem d_Ref_ruleDay_66 : decode c_Ref_ruleDay 66 = .ok (.iload 4, 2) := by decide +kernel
theorem d_Ref_ruleDay_68 : decode c_Ref_ruleDay 68 = .ok (.bipush 7, 2) := by decide +kernel
theorem d_Ref_ruleDay_70 : decode c_Ref_ruleDay 70 = .ok (.isub, 1) := by decide +kernel
theorem d_Ref_ruleDay_71 : decode c_Ref_ruleDay 71 = .ok (.goto 5, 3) := by decide +kernel
theorem d_Ref_ruleDay_74 : decode c_Ref_ruleDay 74 = .ok (.iload 4, 2) := by decide +kernel
theorem d_Ref_ruleDay_76 : decode c_Ref_ruleDay 76 = .ok (.ireturn, 1) := by decide +kernel
theorem d_Ref_number_0 : decode c_Ref_number 0 = .ok (.iload_n 0, 1) := by decide +kernel
theorem d_Ref_number_1 : decode c_Ref_number 1 = .ok (.iconst 1, 1) := by decide +kernel
theorem d_Ref_number_2 : decode c_Ref_number 2 = .ok (.isub, 1) := by decide +kernel
theorem d_Ref_number_3 : decode c_Ref_number 3 = .ok (.istore_n 2, 1) := by decide +kernel
theorem d_Ref_number_4 : decode c_Ref_number 4 = .ok (.sipush 365, 3) := by decide +kernel
theorem d_Ref_number_7 : decode c_Ref_number 7 = .ok (.iload_n 0, 1) := by decide +kernel
theorem d_Ref_number_8 : decode c_Ref_number 8 = .ok (.sipush 1970, 3) := by decide +kernel
theorem d_Ref_number_11 : decode c_Ref_number 11 = .ok (.isub, 1) := by decide +kernel
theorem d_Ref_number_12 : decode c_Ref_number 12 = .ok (.imul, 1) := by decide +kernel
theorem d_Ref_number_13 : decode c_Ref_number 13 = .ok (.iload_n 2, 1) := by decide +kernel
theorem d_Ref_number_14 : decode c_Ref_number 14 = .ok (.iconst 4, 1) := by decide +kernel
theorem d_Ref_number_15 : decode c_Ref_number 15 = .ok (.idiv, 1) := by decide +kernel
theorem d_Ref_number_16 : decode c_Ref_number 16 = .ok (.iadd, 1) := by decide +kernel
theorem d_Ref_number_17 : decode c_Ref_number 17 = .ok (.iload_n 2, 1) := by decide +kernel
theorem d_Ref_number_18 : decode c_Ref_number 18 = .ok (.bipush 100, 2) := by decide +kernel
theorem d_Ref_number_20 : decode c_Ref_number 20 = .ok (.idiv, 1) := by decide +kernel
theorem d_Ref_number_21 : decode c_Ref_number 21 = .ok (.isub, 1) := by decide +kernel
theorem d_Ref_number_22 : decode c_Ref_number 22 = .ok (.iload_n 2, 1) := by decide +kernel
theorem d_Ref_number_23 : decode c_Ref_number 23 = .ok (.sipush 400, 3) := by decide +kernel
theorem d_Ref_number_26 : decode c_Ref_number 26 = .ok (.idiv, 1) := by decide +kernel
theorem d_Ref_number_27 : decode c_Ref_number 27 = .ok (.iadd, 1) := by decide +kernel
theorem d_Ref_number_28 : decode c_Ref_number 28 = .ok (.sipush 477, 3) := by decide +kernel
theorem d_Ref_number_31 : decode c_Ref_number 31 = .ok (.isub, 1) := by decide +kernel
theorem d_Ref_number_32 : decode c_Ref_number 32 = .ok (.istore_n 3, 1) := by decide +kernel
theorem d_Ref_number_33 : decode c_Ref_number 33 = .ok (.iconst 1, 1) := by decide +kernel
theorem d_Ref_number_34 : decode c_Ref_number 34 = .ok (.istore 4, 2) := by decide +kernel
theorem d_Ref_number_36 : decode c_Ref_number 36 = .ok (.iload 4, 2) := by decide +kernel
theorem d_Ref_number_38 : decode c_Ref_number 38 = .ok (.iload_n 1, 1) := by decide +kernel
theorem d_Ref_number_39 : decode c_Ref_number 39 = .ok (.if_icmp .ge 18, 3) := by decide +kernel
theorem d_Ref_number_42 : decode c_Ref_number 42 = .ok (.iload_n 3, 1) := by decide +kernel
theorem d_Ref_number_43 : decode c_Ref_number 43 = .ok (.iload_n 0, 1) := by decide +kernel
theorem d_Ref_number_44 : decode c_Ref_number 44 = .ok (.iload 4, 2) := by decide +kernel
theorem d_Ref_number_46 : decode c_Ref_number 46 = .ok (.invokestatic 51, 3) := by decide +kernel
theorem d_Ref_number_49 : decode c_Ref_number 49 = .ok (.iadd, 1) := by decide +kernel
theorem d_Ref_number_50 : decode c_Ref_number 50 = .ok (.istore_n 3, 1) := by decide +kernel
theorem d_Ref_number_51 : decode c_Ref_number 51 = .ok (.iinc 4 1, 3) := by decide +kernel
theorem d_Ref_number_54 : decode c_Ref_number 54 = .ok (.goto (-18), 3) := by decide +kernel
theorem d_Ref_number_57 : decode c_Ref_number 57 = .ok (.iload_n 3, 1) := by decide +kernel
theorem d_Ref_number_58 : decode c_Ref_number 58 = .ok (.ireturn, 1) := by decide +kernel
theorem d_Ref_length_0 : decode c_Ref_length 0 = .ok (.iload_n 1, 1) := by decide +kernel
theorem d_Ref_length_1 : decode c_Ref_length 1 = .ok (.iconst 2, 1) := by decide +kernel
theorem d_Ref_length_2 : decode c_Ref_length 2 = .ok (.if_icmp .ne 20, 3) := by decide +kernel
theorem d_Ref_length_5 : decode c_Ref_length 5 = .ok (.iload_n 0, 1) := by decide +kernel
theorem d_Ref_length_6 : decode c_Ref_length 6 = .ok (.invokestatic 47, 3) := by decide +kernel
theorem d_Ref_length_9 : decode c_Ref_length 9 = .ok (.ifCond .eq 8, 3) := by decide +kernel
theorem d_Ref_length_12 : decode c_Ref_length 12 = .ok (.bipush 29, 2) := by decide +kernel
theorem d_Ref_length_14 : decode c_Ref_length 14 = .ok (.goto 38, 3) := by decide +kernel
theorem d_Ref_length_17 : decode c_Ref_length 17 = .ok (.bipush 28, 2) := by decide +kernel
theorem d_Ref_length_19 : decode c_Ref_length 19 = .ok (.goto 33, 3) := by decide +kernel
theorem d_Ref_length_22 : decode c_Ref_length 22 = .ok (.iload_n 1, 1) := by decide +kernel
theorem d_Ref_length_23 : decode c_Ref_length 23 = .ok (.iconst 4, 1) := by decide +kernel
theorem d_Ref_length_24 : decode c_Ref_length 24 = .ok (.if_icmp .eq 21, 3) := by decide +kernel
theorem d_Ref_length_27 : decode c_Ref_length 27 = .ok (.iload_n 1, 1) := by decide +kernel
theorem d_Ref_length_28 : decode c_Ref_length 28 = .ok (.bipush 6, 2) := by decide +kernel
theorem d_Ref_length_30 : decode c_Ref_length 30 = .ok (.if_icmp .eq 15, 3) := by decide +kernel
theorem d_Ref_length_33 : decode c_Ref_length 33 = .ok (.iload_n 1, 1) := by decide +kernel
theorem d_Ref_length_34 : decode c_Ref_length 34 = .ok (.bipush 9, 2) := by decide +kernel
theorem d_Ref_length_36 : decode c_Ref_length 36 = .ok (.if_icmp .eq 9, 3) := by decide +kernel
theorem d_Ref_length_39 : decode c_Ref_length 39 = .ok (.iload_n 1, 1) := by decide +kernel
theorem d_Ref_length_40 : decode c_Ref_length 40 = .ok (.bipush 11, 2) := by decide +kernel
theorem d_Ref_length_42 : decode c_Ref_length 42 = .ok (.if_icmp .ne 8, 3) := by decide +kernel
theorem d_Ref_length_45 : decode c_Ref_length 45 = .ok (.bipush 30, 2) := by decide +kernel
theorem d_Ref_length_47 : decode c_Ref_length 47 = .ok (.goto 5, 3) := by decide +kernel
theorem d_Ref_length_50 : decode c_Ref_length 50 = .ok (.bipush 31, 2) := by decide +kernel
theorem d_Ref_length_52 : decode c_Ref_length 52 = .ok (.ireturn, 1) := by decide +kernel
theorem d_Ref_leap_0 : decode c_Ref_leap 0 = .ok (.iload_n 0, 1) := by decide +kernel
theorem d_Ref_leap_1 : decode c_Ref_leap 1 = .ok (.iconst 4, 1) := by decide +kernel
theorem d_Ref_leap_2 : decode c_Ref_leap 2 = .ok (.irem, 1) := by decide +kernel
theorem d_Ref_leap_3 : decode c_Ref_leap 3 = .ok (.ifCond .ne 10, 3) := by decide +kernel
theorem d_Ref_leap_6 : decode c_Ref_leap 6 = .ok (.iload_n 0, 1) := by decide +kernel
theorem d_Ref_leap_7 : decode c_Ref_leap 7 = .ok (.bipush 100, 2) := by decide +kernel
theorem d_Ref_leap_9 : decode c_Ref_leap 9 = .ok (.irem, 1) := by decide +kernel
theorem d_Ref_leap_10 : decode c_Ref_leap 10 = .ok (.ifCond .ne 11, 3) := by decide +kernel
theorem d_Ref_leap_13 : decode c_Ref_leap 13 = .ok (.iload_n 0, 1) := by decide +kernel
theorem d_Ref_leap_14 : decode c_Ref_leap 14 = .ok (.sipush 400, 3) := by decide +kernel
theorem d_Ref_leap_17 : decode c_Ref_leap 17 = .ok (.irem, 1) := by decide +kernel
theorem d_Ref_leap_18 : decode c_Ref_leap 18 = .ok (.ifCond .ne 7, 3) := by decide +kernel
theorem d_Ref_leap_21 : decode c_Ref_leap 21 = .ok (.iconst 1, 1) := by decide +kernel
theorem d_Ref_leap_22 : decode c_Ref_leap 22 = .ok (.goto 4, 3) := by decide +kernel
theorem d_Ref_leap_25 : decode c_Ref_leap 25 = .ok (.iconst 0, 1) := by decide +kernel
theorem d_Ref_leap_26 : decode c_Ref_leap 26 = .ok (.ireturn, 1) := by decide +kernel
theorem d_Ref_weekday_0 : decode c_Ref_weekday 0 = .ok (.iload_n 0, 1) := by decide +kernel
theorem d_Ref_weekday_1 : decode c_Ref_weekday 1 = .ok (.iconst 4, 1) := by decide +kernel
theorem d_Ref_weekday_2 : decode c_Ref_weekday 2 = .ok (.iadd, 1) := by decide +kernel
theorem d_Ref_weekday_3 : decode c_Ref_weekday 3 = .ok (.bipush 7, 2) := by decide +kernel
theorem d_Ref_weekday_5 : decode c_Ref_weekday 5 = .ok (.invokestatic 72, 3) := by decide +kernel
theorem d_Ref_weekday_8 : decode c_Ref_weekday 8 = .ok (.iconst 1, 1) := by decide +kernel
theorem d_Ref_weekday_9 : decode c_Ref_weekday 9 = .ok (.iadd, 1) := by decide +kernel
theorem d_Ref_weekday_10 : decode c_Ref_weekday 10 = .ok (.ireturn, 1) := by decide +kernel
theorem d_Ref_event_0 : decode c_Ref_event 0 = .ok (.aload_n 0, 1) := by decide +kernel
theorem d_Ref_event_1 : decode c_Ref_event 1 = .ok (.getfield 34, 3) := by decide +kernel
theorem d_Ref_event_4 : decode c_Ref_event 4 = .ok (.iload_n 1, 1) := by decide +kernel
theorem d_Ref_event_5 : decode c_Ref_event 5 = .ok (.iaload, 1) := by decide +kernel
theorem d_Ref_event_6 : decode c_Ref_event 6 = .ok (.istore 5, 2) := by decide +kernel
theorem d_Ref_event_8 : decode c_Ref_event 8 = .ok (.iload 5, 2) := by decide +kernel
theorem d_Ref_event_10 : decode c_Ref_event 10 = .ok (.ifCond .le 100, 3) := by decide +kernel
theorem d_Ref_event_13 : decode c_Ref_event 13 = .ok (.aload_n 0, 1) := by decide +kernel
theorem d_Ref_event_14 : decode c_Ref_event 14 = .ok (.getfield 26, 3) := by decide +kernel
theorem d_Ref_event_17 : decode c_Ref_event 17 = .ok (.iload_n 1, 1) := by decide +kernel
theorem d_Ref_event_18 : decode c_Ref_event 18 = .ok (.aaload, 1) := by decide +kernel
theorem d_Ref_event_19 : decode c_Ref_event 19 = .ok (.iload 5, 2) := by decide +kernel
theorem d_Ref_event_21 : decode c_Ref_event 21 = .ok (.iconst 1, 1) := by decide +kernel
theorem d_Ref_event_22 : decode c_Ref_event 22 = .ok (.isub, 1) := by decide +kernel
theorem d_Ref_event_23 : decode c_Ref_event 23 = .ok (.laload, 1) := by decide +kernel
theorem d_Ref_event_24 : decode c_Ref_event 24 = .ok (.lload_n 2, 1) := by decide +kernel
theorem d_Ref_event_25 : decode c_Ref_event 25 = .ok (.lcmp, 1) := by decide +kernel
theorem d_Ref_event_26 : decode c_Ref_event 26 = .ok (.ifCond .gt 38, 3) := by decide +kernel
theorem d_Ref_event_29 : decode c_Ref_event 29 = .ok (.aload_n 0, 1) := by decide +kernel
theorem d_Ref_event_30 : decode c_Ref_event 30 = .ok (.getfield 26, 3) := by decide +kernel
theorem d_Ref_event_33 : decode c_Ref_event 33 = .ok (.iload_n 1, 1) := by decide +kernel
theorem d_Ref_event_34 : decode c_Ref_event 34 = .ok (.aaload, 1) := by decide +kernel
theorem d_Ref_event_35 : decode c_Ref_event 35 = .ok (.iload 5, 2) := by decide +kernel
theorem d_Ref_event_37 : decode c_Ref_event 37 = .ok (.iconst 1, 1) := by decide +kernel
theorem d_Ref_event_38 : decode c_Ref_event 38 = .ok (.isub, 1) := by decide +kernel
theorem d_Ref_event_39 : decode c_Ref_event 39 = .ok (.laload, 1) := by decide +kernel
theorem d_Ref_event_40 : decode c_Ref_event 40 = .ok (.lload_n 2, 1) := by decide +kernel
theorem d_Ref_event_41 : decode c_Ref_event 41 = .ok (.lcmp, 1) := by decide +kernel
theorem d_Ref_event_42 : decode c_Ref_event 42 = .ok (.ifCond .ne 68, 3) := by decide +kernel
theorem d_Ref_event_45 : decode c_Ref_event 45 = .ok (.iload 4, 2) := by decide +kernel
theorem d_Ref_event_47 : decode c_Ref_event 47 = .ok (.ifCond .eq 63, 3) := by decide +kernel
theorem d_Ref_event_50 : decode c_Ref_event 50 = .ok (.aload_n 0, 1) := by decide +kernel
theorem d_Ref_event_51 : decode c_Ref_event 51 = .ok (.getfield 31, 3) := by decide +kernel
theorem d_Ref_event_54 : decode c_Ref_event 54 = .ok (.iload_n 1, 1) := by decide +kernel
theorem d_Ref_event_55 : decode c_Ref_event 55 = .ok (.aaload, 1) := by decide +kernel
theorem d_Ref_event_56 : decode c_Ref_event 56 = .ok (.iload 5, 2) := by decide +kernel
theorem d_Ref_event_58 : decode c_Ref_event 58 = .ok (.iconst 1, 1) := by decide +kernel
theorem d_Ref_event_59 : decode c_Ref_event 59 = .ok (.isub, 1) := by decide +kernel
theorem d_Ref_event_60 : decode c_Ref_event 60 = .ok (.baload, 1) := by decide +kernel
theorem d_Ref_event_61 : decode c_Ref_event 61 = .ok (.ifCond .ne 49, 3) := by decide +kernel
theorem d_Ref_event_64 : decode c_Ref_event 64 = .ok (.aload_n 0, 1) := by decide +kernel
theorem d_Ref_event_65 : decode c_Ref_event 65 = .ok (.getfield 26, 3) := by decide +kernel
theorem d_Ref_event_68 : decode c_Ref_event 68 = .ok (.iload_n 1, 1) := by decide +kernel
theorem d_Ref_event_69 : decode c_Ref_event 69 = .ok (.aaload, 1) := by decide +kernel
theorem d_Ref_event_70 : decode c_Ref_event 70 = .ok (.iload 5, 2) := by decide +kernel
theorem d_Ref_event_72 : decode c_Ref_event 72 = .ok (.aload_n 0, 1) := by decide +kernel
theorem d_Ref_event_73 : decode c_Ref_event 73 = .ok (.getfield 26, 3) := by decide +kernel
theorem d_Ref_event_76 : decode c_Ref_event 76 = .ok (.iload_n 1, 1) := by decide +kernel
theorem d_Ref_event_77 : decode c_Ref_event 77 = .ok (.aaload, 1) := by decide +kernel
theorem d_Ref_event_78 : decode c_Ref_event 78 = .ok (.iload 5, 2) := by decide +kernel
theorem d_Ref_event_80 : decode c_Ref_event 80 = .ok (.iconst 1, 1) := by decide +kernel
theorem d_Ref_event_81 : decode c_Ref_event 81 = .ok (.isub, 1) := by decide +kernel
theorem d_Ref_event_82 : decode c_Ref_event 82 = .ok (.laload, 1) := by decide +kernel
theorem d_Ref_event_83 : decode c_Ref_event 83 = .ok (.lastore, 1) := by decide +kernel
theorem d_Ref_event_84 : decode c_Ref_event 84 = .ok (.aload_n 0, 1) := by decide +kernel
theorem d_Ref_event_85 : decode c_Ref_event 85 = .ok (.getfield 31, 3) := by decide +kernel
theorem d_Ref_event_88 : decode c_Ref_event 88 = .ok (.iload_n 1, 1) := by decide +kernel
theorem d_Ref_event_89 : decode c_Ref_event 89 = .ok (.aaload, 1) := by decide +kernel
theorem d_Ref_event_90 : decode c_Ref_event 90 = .ok (.iload 5, 2) := by decide +kernel
theorem d_Ref_event_92 : decode c_Ref_event 92 = .ok (.aload_n 0, 1) := by decide +kernel
theorem d_Ref_event_93 : decode c_Ref_event 93 = .ok (.getfield 31, 3) := by decide +kernel
theorem d_Ref_event_96 : decode c_Ref_event 96 = .ok (.iload_n 1, 1) := by decide +kernel
theorem d_Ref_event_97 : decode c_Ref_event 97 = .ok (.aaload, 1) := by decide +kernel
theorem d_Ref_event_98 : decode c_Ref_event 98 = .ok (.iload 5, 2) := by decide +kernel
theorem d_Ref_event_100 : decode c_Ref_event 100 = .ok (.iconst 1, 1) := by decide +kernel
theorem d_Ref_event_101 : decode c_Ref_event 101 = .ok (.isub, 1) := by decide +kernel
theorem d_Ref_event_102 : decode c_Ref_event 102 = .ok (.baload, 1) := by decide +kernel
theorem d_Ref_event_103 : decode c_Ref_event 103 = .ok (.bastore, 1) := by decide +kernel
theorem d_Ref_event_104 : decode c_Ref_event 104 = .ok (.iinc 5 (-1), 3) := by decide +kernel
theorem d_Ref_event_107 : decode c_Ref_event 107 = .ok (.goto (-99), 3) := by decide +kernel
theorem d_Ref_event_110 : decode c_Ref_event 110 = .ok (.aload_n 0, 1) := by decide +kernel
theorem d_Ref_event_111 : decode c_Ref_event 111 = .ok (.getfield 26, 3) := by decide +kernel
theorem d_Ref_event_114 : decode c_Ref_event 114 = .ok (.iload_n 1, 1) := by decide +kernel
theorem d_Ref_event_115 : decode c_Ref_event 115 = .ok (.aaload, 1) := by decide +kernel
theorem d_Ref_event_116 : decode c_Ref_event 116 = .ok (.iload 5, 2) := by decide +kernel
theorem d_Ref_event_118 : decode c_Ref_event 118 = .ok (.lload_n 2, 1) := by decide +kernel
theorem d_Ref_event_119 : decode c_Ref_event 119 = .ok (.lastore, 1) := by decide +kernel
theorem d_Ref_event_120 : decode c_Ref_event 120 = .ok (.aload_n 0, 1) := by decide +kernel
theorem d_Ref_event_121 : decode c_Ref_event 121 = .ok (.getfield 31, 3) := by decide +kernel
theorem d_Ref_event_124 : decode c_Ref_event 124 = .ok (.iload_n 1, 1) := by decide +kernel
theorem d_Ref_event_125 : decode c_Ref_event 125 = .ok (.aaload, 1) := by decide +kernel
theorem d_Ref_event_126 : decode c_Ref_event 126 = .ok (.iload 5, 2) := by decide +kernel
theorem d_Ref_event_128 : decode c_Ref_event 128 = .ok (.iload 4, 2) := by decide +kernel
theorem d_Ref_event_130 : decode c_Ref_event 130 = .ok (.bastore, 1) := by decide +kernel
theorem d_Ref_event_131 : decode c_Ref_event 131 = .ok (.aload_n 0, 1) := by decide +kernel
theorem d_Ref_event_132 : decode c_Ref_event 132 = .ok (.getfield 34, 3) := by decide +kernel
theorem d_Ref_event_135 : decode c_Ref_event 135 = .ok (.iload_n 1, 1) := by decide +kernel
theorem d_Ref_event_136 : decode c_Ref_event 136 = .ok (.dup2, 1) := by decide +kernel
theorem d_Ref_event_137 : decode c_Ref_event 137 = .ok (.iaload, 1) := by decide +kernel
theorem d_Ref_event_138 : decode c_Ref_event 138 = .ok (.iconst 1, 1) := by decide +kernel
theorem d_Ref_event_139 : decode c_Ref_event 139 = .ok (.iadd, 1) := by decide +kernel
theorem d_Ref_event_140 : decode c_Ref_event 140 = .ok (.iastore, 1) := by decide +kernel
theorem d_Ref_event_141 : decode c_Ref_event 141 = .ok (.return_, 1) := by decide +kernel
theorem d_Ref_local_0 : decode c_Ref_local 0 = .ok (.aload_n 0, 1) := by decide +kernel
theorem d_Ref_local_1 : decode c_Ref_local 1 = .ok (.iconst 0, 1) := by decide +kernel
theorem d_Ref_local_2 : decode c_Ref_local 2 = .ok (.putfield 44, 3) := by decide +kernel
theorem d_Ref_local_5 : decode c_Ref_local 5 = .ok (.aload_n 0, 1) := by decide +kernel
theorem d_Ref_local_6 : decode c_Ref_local 6 = .ok (.iload_n 1, 1) := by decide +kernel
theorem d_Ref_local_7 : decode c_Ref_local 7 = .ok (.lload_n 2, 1) := by decide +kernel
theorem d_Ref_local_8 : decode c_Ref_local 8 = .ok (.invokevirtual 137, 3) := by decide +kernel
theorem d_Ref_local_11 : decode c_Ref_local 11 = .ok (.ifCond .eq 12, 3) := by decide +kernel
theorem d_Ref_local_14 : decode c_Ref_local 14 = .ok (.aload_n 0, 1) := by decide +kernel
theorem d_Ref_local_15 : decode c_Ref_local 15 = .ok (.iconst 1, 1) := by decide +kernel
theorem d_Ref_local_16 : decode c_Ref_local 16 = .ok (.invokevirtual 141, 3) := by decide +kernel
theorem d_Ref_local_19 : decode c_Ref_local 19 = .ok (.i2l, 1) := by decide +kernel
theorem d_Ref_local_20 : decode c_Ref_local 20 = .ok (.goto 9, 3) := by decide +kernel
theorem d_Ref_local_23 : decode c_Ref_local 23 = .ok (.aload_n 0, 1) := by decide +kernel
theorem d_Ref_local_24 : decode c_Ref_local 24 = .ok (.iload_n 1, 1) := by decide +kernel
theorem d_Ref_local_25 : decode c_Ref_local 25 = .ok (.lload_n 2, 1) := by decide +kernel
theorem d_Ref_local_26 : decode c_Ref_local 26 = .ok (.invokevirtual 144, 3) := by decide +kernel
theorem d_Ref_local_29 : decode c_Ref_local 29 = .ok (.lreturn, 1) := by decide +kernel
theorem d_Ref_out_0 : decode c_Ref_out 0 = .ok (.iload_n 1, 1) := by decide +kernel
theorem d_Ref_out_1 : decode c_Ref_out 1 = .ok (.ifCond .lt 23, 3) := by decide +kernel
theorem d_Ref_out_4 : decode c_Ref_out 4 = .ok (.iload_n 1, 1) := by decide +kernel
theorem d_Ref_out_5 : decode c_Ref_out 5 = .ok (.bipush 7, 2) := by decide +kernel
theorem d_Ref_out_7 : decode c_Ref_out 7 = .ok (.if_icmp .gt 17, 3) := by decide +kernel
theorem d_Ref_out_10 : decode c_Ref_out 10 = .ok (.lload_n 2, 1) := by decide +kernel
theorem d_Ref_out_11 : decode c_Ref_out 11 = .ok (.lconst 0, 1) := by decide +kernel
theorem d_Ref_out_12 : decode c_Ref_out 12 = .ok (.lcmp, 1) := by decide +kernel
theorem d_Ref_out_13 : decode c_Ref_out 13 = .ok (.ifCond .lt 11, 3) := by decide +kernel
theorem d_Ref_out_16 : decode c_Ref_out 16 = .ok (.lload_n 2, 1) := by decide +kernel
theorem d_Ref_out_17 : decode c_Ref_out 17 = .ok (.ldc2_w 135, 3) := by decide +kernel
theorem d_Ref_out_20 : decode c_Ref_out 20 = .ok (.lcmp, 1) := by decide +kernel
theorem d_Ref_out_21 : decode c_Ref_out 21 = .ok (.ifCond .le 7, 3) := by decide +kernel
theorem d_Ref_out_24 : decode c_Ref_out 24 = .ok (.iconst 1, 1) := by decide +kernel
theorem d_Ref_out_25 : decode c_Ref_out 25 = .ok (.goto 4, 3) := by decide +kernel
theorem d_Ref_out_28 : decode c_Ref_out 28 = .ok (.iconst 0, 1) := by decide +kernel
theorem d_Ref_out_29 : decode c_Ref_out 29 = .ok (.ireturn, 1) := by decide +kernel
theorem d_Ref_fail_0 : decode c_Ref_fail 0 = .ok (.aload_n 0, 1) := by decide +kernel
theorem d_Ref_fail_1 : decode c_Ref_fail 1 = .ok (.iload_n 1, 1) := by decide +kernel
theorem d_Ref_fail_2 : decode c_Ref_fail 2 = .ok (.putfield 44, 3) := by decide +kernel
theorem d_Ref_fail_5 : decode c_Ref_fail 5 = .ok (.iconst 0, 1) := by decide +kernel
theorem d_Ref_fail_6 : decode c_Ref_fail 6 = .ok (.ireturn, 1) := by decide +kernel
theorem d_Ref_localAt_0 : decode c_Ref_localAt 0 = .ok (.lload_n 2, 1) := by decide +kernel
theorem d_Ref_localAt_1 : decode c_Ref_localAt 1 = .ok (.ldc2_w 122, 3) := by decide +kernel
theorem d_Ref_localAt_4 : decode c_Ref_localAt 4 = .ok (.aload_n 0, 1) := by decide +kernel
theorem d_Ref_localAt_5 : decode c_Ref_localAt 5 = .ok (.iload_n 1, 1) := by decide +kernel
theorem d_Ref_localAt_6 : decode c_Ref_localAt 6 = .ok (.aload_n 0, 1) := by decide +kernel
theorem d_Ref_localAt_7 : decode c_Ref_localAt 7 = .ok (.iload_n 1, 1) := by decide +kernel
theorem d_Ref_localAt_8 : decode c_Ref_localAt 8 = .ok (.lload_n 2, 1) := by decide +kernel
theorem d_Ref_localAt_9 : decode c_Ref_localAt 9 = .ok (.invokevirtual 128, 3) := by decide +kernel
theorem d_Ref_localAt_12 : decode c_Ref_localAt 12 = .ok (.invokevirtual 132, 3) := by decide +kernel
theorem d_Ref_localAt_15 : decode c_Ref_localAt 15 = .ok (.i2l, 1) := by decide +kernel
theorem d_Ref_localAt_16 : decode c_Ref_localAt 16 = .ok (.lmul, 1) := by decide +kernel
theorem d_Ref_localAt_17 : decode c_Ref_localAt 17 = .ok (.ladd, 1) := by decide +kernel
theorem d_Ref_localAt_18 : decode c_Ref_localAt 18 = .ok (.lreturn, 1) := by decide +kernel
theorem d_Ref_passed_0 : decode c_Ref_passed 0 = .ok (.iconst 0, 1) := by decide +kernel
theorem d_Ref_passed_1 : decode c_Ref_passed 1 = .ok (.istore 4, 2) := by decide +kernel
theorem d_Ref_passed_3 : decode c_Ref_passed 3 = .ok (.aload_n 0, 1) := by decide +kernel
theorem d_Ref_passed_4 : decode c_Ref_passed 4 = .ok (.getfield 34, 3) := by decide +kernel
theorem d_Ref_passed_7 : decode c_Ref_passed 7 = .ok (.iload_n 1, 1) := by decide +kernel
theorem d_Ref_passed_8 : decode c_Ref_passed 8 = .ok (.iaload, 1) := by decide +kernel
theorem d_Ref_passed_9 : decode c_Ref_passed 9 = .ok (.istore 5, 2) := by decide +kernel
theorem d_Ref_passed_11 : decode c_Ref_passed 11 = .ok (.iload 4, 2) := by decide +kernel
theorem d_Ref_passed_13 : decode c_Ref_passed 13 = .ok (.iload 5, 2) := by decide +kernel
theorem d_Ref_passed_15 : decode c_Ref_passed 15 = .ok (.if_icmp .ge 42, 3) := by decide +kernel
theorem d_Ref_passed_18 : decode c_Ref_passed 18 = .ok (.iload 4, 2) := by decide +kernel
theorem d_Ref_passed_20 : decode c_Ref_passed 20 = .ok (.iload 5, 2) := by decide +kernel
theorem d_Ref_passed_22 : decode c_Ref_passed 22 = .ok (.iadd, 1) := by decide +kernel
theorem d_Ref_passed_23 : decode c_Ref_passed 23 = .ok (.iconst 2, 1) := by decide +kernel
theorem d_Ref_passed_24 : decode c_Ref_passed 24 = .ok (.idiv, 1) := by decide +kernel
theorem d_Ref_passed_25 : decode c_Ref_passed 25 = .ok (.istore 6, 2) := by decide +kernel
theorem d_Ref_passed_27 : decode c_Ref_passed 27 = .ok (.aload_n 0, 1) := by decide +kernel
theorem d_Ref_passed_28 : decode c_Ref_passed 28 = .ok (.getfield 26, 3) := by decide +kernel
theorem d_Ref_passed_31 : decode c_Ref_passed 31 = .ok (.iload_n 1, 1) := by decide +kernel
theorem d_Ref_passed_32 : decode c_Ref_passed 32 = .ok (.aaload, 1) := by decide +kernel
theorem d_Ref_passed_33 : decode c_Ref_passed 33 = .ok (.iload 6, 2) := by decide +kernel
theorem d_Ref_passed_35 : decode c_Ref_passed 35 = .ok (.laload, 1) := by decide +kernel
theorem d_Ref_passed_36 : decode c_Ref_passed 36 = .ok (.lload_n 2, 1) := by decide +kernel
theorem d_Ref_passed_37 : decode c_Ref_passed 37 = .ok (.lcmp, 1) := by decide +kernel
theorem d_Ref_passed_38 : decode c_Ref_passed 38 = .ok (.ifCond .gt 12, 3) := by decide +kernel
theorem d_Ref_passed_41 : decode c_Ref_passed 41 = .ok (.iload 6, 2) := by decide +kernel
theorem d_Ref_passed_43 : decode c_Ref_passed 43 = .ok (.iconst 1, 1) := by decide +kernel
theorem d_Ref_passed_44 : decode c_Ref_passed 44 = .ok (.iadd, 1) := by decide +kernel
theorem d_Ref_passed_45 : decode c_Ref_passed 45 = .ok (.istore 4, 2) := by decide +kernel
theorem d_Ref_passed_47 : decode c_Ref_passed 47 = .ok (.goto 7, 3) := by decide +kernel
theorem d_Ref_passed_50 : decode c_Ref_passed 50 = .ok (.iload 6, 2) := by decide +kernel
theorem d_Ref_passed_52 : decode c_Ref_passed 52 = .ok (.istore 5, 2) := by decide +kernel
theorem d_Ref_passed_54 : decode c_Ref_passed 54 = .ok (.goto (-43), 3) := by decide +kernel
theorem d_Ref_passed_57 : decode c_Ref_passed 57 = .ok (.iload 4, 2) := by decide +kernel
theorem d_Ref_passed_59 : decode c_Ref_passed 59 = .ok (.ireturn, 1) := by decide +kernel
theorem d_Ref_minutes_0 : decode c_Ref_minutes 0 = .ok (.aload_n 0, 1) := by decide +kernel
theorem d_Ref_minutes_1 : decode c_Ref_minutes 1 = .ok (.getfield 17, 3) := by decide +kernel
theorem d_Ref_minutes_4 : decode c_Ref_minutes 4 = .ok (.iload_n 1, 1) := by decide +kernel
theorem d_Ref_minutes_5 : decode c_Ref_minutes 5 = .ok (.iaload, 1) := by decide +kernel
theorem d_Ref_minutes_6 : decode c_Ref_minutes 6 = .ok (.iload_n 2, 1) := by decide +kernel
theorem d_Ref_minutes_7 : decode c_Ref_minutes 7 = .ok (.ifCond .le 25, 3) := by decide +kernel
theorem d_Ref_minutes_10 : decode c_Ref_minutes 10 = .ok (.aload_n 0, 1) := by decide +kernel
theorem d_Ref_minutes_11 : decode c_Ref_minutes 11 = .ok (.getfield 31, 3) := by decide +kernel
theorem d_Ref_minutes_14 : decode c_Ref_minutes 14 = .ok (.iload_n 1, 1) := by decide +kernel
theorem d_Ref_minutes_15 : decode c_Ref_minutes 15 = .ok (.aaload, 1) := by decide +kernel
theorem d_Ref_minutes_16 : decode c_Ref_minutes 16 = .ok (.iload_n 2, 1) := by decide +kernel
theorem d_Ref_minutes_17 : decode c_Ref_minutes 17 = .ok (.iconst 1, 1) := by decide +kernel
theorem d_Ref_minutes_18 : decode c_Ref_minutes 18 = .ok (.isub, 1) := by decide +kernel
theorem d_Ref_minutes_19 : decode c_Ref_minutes 19 = .ok (.baload, 1) := by decide +kernel
theorem d_Ref_minutes_20 : decode c_Ref_minutes 20 = .ok (.ifCond .eq 12, 3) := by decide +kernel
theorem d_Ref_minutes_23 : decode c_Ref_minutes 23 = .ok (.aload_n 0, 1) := by decide +kernel
theorem d_Ref_minutes_24 : decode c_Ref_minutes 24 = .ok (.getfield 21, 3) := by decide +kernel
theorem d_Ref_minutes_27 : decode c_Ref_minutes 27 = .ok (.iload_n 1, 1) := by decide +kernel
theorem d_Ref_minutes_28 : decode c_Ref_minutes 28 = .ok (.iaload, 1) := by decide +kernel
theorem d_Ref_minutes_29 : decode c_Ref_minutes 29 = .ok (.goto 4, 3) := by decide +kernel
theorem d_Ref_minutes_32 : decode c_Ref_minutes 32 = .ok (.iconst 0, 1) := by decide +kernel
theorem d_Ref_minutes_33 : decode c_Ref_minutes 33 = .ok (.iadd, 1) := by decide +kernel
theorem d_Ref_minutes_34 : decode c_Ref_minutes 34 = .ok (.ireturn, 1) := by decide +kernel
theorem d_Ref_many_0 : decode c_Ref_many 0 = .ok (.aload_n 0, 1) := by decide +kernel
theorem d_Ref_many_1 : decode c_Ref_many 1 = .ok (.iconst 0, 1) := by decide +kernel
theorem d_Ref_many_2 : decode c_Ref_many 2 = .ok (.putfield 44, 3) := by decide +kernel
theorem d_Ref_many_5 : decode c_Ref_many 5 = .ok (.aload_n 0, 1) := by decide +kernel
theorem d_Ref_many_6 : decode c_Ref_many 6 = .ok (.iload_n 1, 1) := by decide +kernel
theorem d_Ref_many_7 : decode c_Ref_many 7 = .ok (.lload_n 2, 1) := by decide +kernel
theorem d_Ref_many_8 : decode c_Ref_many 8 = .ok (.invokevirtual 137, 3) := by decide +kernel
theorem d_Ref_many_11 : decode c_Ref_many 11 = .ok (.ifCond .eq 11, 3) := by decide +kernel
theorem d_Ref_many_14 : decode c_Ref_many 14 = .ok (.aload_n 0, 1) := by decide +kernel
theorem d_Ref_many_15 : decode c_Ref_many 15 = .ok (.iconst 1, 1) := by decide +kernel
theorem d_Ref_many_16 : decode c_Ref_many 16 = .ok (.invokevirtual 141, 3) := by decide +kernel
theorem d_Ref_many_19 : decode c_Ref_many 19 = .ok (.goto 9, 3) := by decide +kernel
theorem d_Ref_many_22 : decode c_Ref_many 22 = .ok (.aload_n 0, 1) := by decide +kernel
theorem d_Ref_many_23 : decode c_Ref_many 23 = .ok (.iload_n 1, 1) := by decide +kernel
theorem d_Ref_many_24 : decode c_Ref_many 24 = .ok (.lload_n 2, 1) := by decide +kernel
theorem d_Ref_many_25 : decode c_Ref_many 25 = .ok (.invokevirtual 148, 3) := by decide +kernel
theorem d_Ref_many_28 : decode c_Ref_many 28 = .ok (.ireturn, 1) := by decide +kernel
theorem d_Ref_find_0 : decode c_Ref_find 0 = .ok (.iconst 0, 1) := by decide +kernel
theorem d_Ref_find_1 : decode c_Ref_find 1 = .ok (.istore 4, 2) := by decide +kernel
theorem d_Ref_find_3 : decode c_Ref_find 3 = .ok (.lload_n 2, 1) := by decide +kernel
theorem d_Ref_find_4 : decode c_Ref_find 4 = .ok (.ldc2_w 122, 3) := by decide +kernel
theorem d_Ref_find_7 : decode c_Ref_find 7 = .ok (.aload_n 0, 1) := by decide +kernel
theorem d_Ref_find_8 : decode c_Ref_find 8 = .ok (.getfield 17, 3) := by decide +kernel
theorem d_Ref_find_11 : decode c_Ref_find 11 = .ok (.iload_n 1, 1) := by decide +kernel
theorem d_Ref_find_12 : decode c_Ref_find 12 = .ok (.iaload, 1) := by decide +kernel
theorem d_Ref_find_13 : decode c_Ref_find 13 = .ok (.aload_n 0, 1) := by decide +kernel
theorem d_Ref_find_14 : decode c_Ref_find 14 = .ok (.getfield 21, 3) := by decide +kernel
theorem d_Ref_find_17 : decode c_Ref_find 17 = .ok (.iload_n 1, 1) := by decide +kernel
theorem d_Ref_find_18 : decode c_Ref_find 18 = .ok (.iaload, 1) := by decide +kernel
theorem d_Ref_find_19 : decode c_Ref_find 19 = .ok (.iadd, 1) := by decide +kernel
theorem d_Ref_find_20 : decode c_Ref_find 20 = .ok (.i2l, 1) := by decide +kernel
theorem d_Ref_find_21 : decode c_Ref_find 21 = .ok (.lmul, 1) := by decide +kernel
theorem d_Ref_find_22 : decode c_Ref_find 22 = .ok (.lsub, 1) := by decide +kernel
theorem d_Ref_find_23 : decode c_Ref_find 23 = .ok (.lstore 5, 2) := by decide +kernel
theorem d_Ref_find_25 : decode c_Ref_find 25 = .ok (.lload_n 2, 1) := by decide +kernel
theorem d_Ref_find_26 : decode c_Ref_find 26 = .ok (.ldc2_w 122, 3) := by decide +kernel
theorem d_Ref_find_29 : decode c_Ref_find 29 = .ok (.aload_n 0, 1) := by decide +kernel
theorem d_Ref_find_30 : decode c_Ref_find 30 = .ok (.getfield 17, 3) := by decide +kernel
theorem d_Ref_find_33 : decode c_Ref_find 33 = .ok (.iload_n 1, 1) := by decide +kernel
theorem d_Ref_find_34 : decode c_Ref_find 34 = .ok (.iaload, 1) := by decide +kernel
theorem d_Ref_find_35 : decode c_Ref_find 35 = .ok (.i2l, 1) := by decide +kernel
theorem d_Ref_find_36 : decode c_Ref_find 36 = .ok (.lmul, 1) := by decide +kernel
theorem d_Ref_find_37 : decode c_Ref_find 37 = .ok (.lsub, 1) := by decide +kernel
theorem d_Ref_find_38 : decode c_Ref_find 38 = .ok (.lstore 7, 2) := by decide +kernel
theorem d_Ref_find_40 : decode c_Ref_find 40 = .ok (.aload_n 0, 1) := by decide +kernel
theorem d_Ref_find_41 : decode c_Ref_find 41 = .ok (.iload_n 1, 1) := by decide +kernel
theorem d_Ref_find_42 : decode c_Ref_find 42 = .ok (.lload 5, 2) := by decide +kernel
theorem d_Ref_find_44 : decode c_Ref_find 44 = .ok (.invokevirtual 144, 3) := by decide +kernel
theorem d_Ref_find_47 : decode c_Ref_find 47 = .ok (.lload_n 2, 1) := by decide +kernel
theorem d_Ref_find_48 : decode c_Ref_find 48 = .ok (.lcmp, 1) := by decide +kernel
theorem d_Ref_find_49 : decode c_Ref_find 49 = .ok (.ifCond .ne 15, 3) := by decide +kernel
theorem d_Ref_find_52 : decode c_Ref_find 52 = .ok (.aload_n 0, 1) := by decide +kernel
theorem d_Ref_find_53 : decode c_Ref_find 53 = .ok (.getfield 40, 3) := by decide +kernel
theorem d_Ref_find_56 : decode c_Ref_find 56 = .ok (.iload 4, 2) := by decide +kernel
theorem d_Ref_find_58 : decode c_Ref_find 58 = .ok (.lload 5, 2) := by decide +kernel
theorem d_Ref_find_60 : decode c_Ref_find 60 = .ok (.lastore, 1) := by decide +kernel
theorem d_Ref_find_61 : decode c_Ref_find 61 = .ok (.iinc 4 1, 3) := by decide +kernel
theorem d_Ref_find_64 : decode c_Ref_find 64 = .ok (.lload 7, 2) := by decide +kernel
theorem d_Ref_find_66 : decode c_Ref_find 66 = .ok (.lload 5, 2) := by decide +kernel
theorem d_Ref_find_68 : decode c_Ref_find 68 = .ok (.lcmp, 1) := by decide +kernel
theorem d_Ref_find_69 : decode c_Ref_find 69 = .ok (.ifCond .eq 27, 3) := by decide +kernel
theorem d_Ref_find_72 : decode c_Ref_find 72 = .ok (.aload_n 0, 1) := by decide +kernel
theorem d_Ref_find_73 : decode c_Ref_find 73 = .ok (.iload_n 1, 1) := by decide +kernel
theorem d_Ref_find_74 : decode c_Ref_find 74 = .ok (.lload 7, 2) := by decide +kernel
theorem d_Ref_find_76 : decode c_Ref_find 76 = .ok (.invokevirtual 144, 3) := by decide +kernel
theorem d_Ref_find_79 : decode c_Ref_find 79 = .ok (.lload_n 2, 1) := by decide +kernel
theorem d_Ref_find_80 : decode c_Ref_find 80 = .ok (.lcmp, 1) := by decide +kernel
theorem d_Ref_find_81 : decode c_Ref_find 81 = .ok (.ifCond .ne 15, 3) := by decide +kernel
theorem d_Ref_find_84 : decode c_Ref_find 84 = .ok (.aload_n 0, 1) := by decide +kernel
theorem d_Ref_find_85 : decode c_Ref_find 85 = .ok (.getfield 40, 3) := by decide +kernel
theorem d_Ref_find_88 : decode c_Ref_find 88 = .ok (.iload 4, 2) := by decide +kernel
theorem d_Ref_find_90 : decode c_Ref_find 90 = .ok (.lload 7, 2) := by decide +kernel
theorem d_Ref_find_92 : decode c_Ref_find 92 = .ok (.lastore, 1) := by decide +kernel
theorem d_Ref_find_93 : decode c_Ref_find 93 = .ok (.iinc 4 1, 3) := by decide +kernel
theorem d_Ref_find_96 : decode c_Ref_find 96 = .ok (.iload 4, 2) := by decide +kernel
theorem d_Ref_find_98 : decode c_Ref_find 98 = .ok (.ireturn, 1) := by decide +kernel
theorem d_Ref_universal_0 : decode c_Ref_universal 0 = .ok (.aload_n 0, 1) := by decide +kernel
theorem d_Ref_universal_1 : decode c_Ref_universal 1 = .ok (.iconst 0, 1) := by decide +kernel
theorem d_Ref_universal_2 : decode c_Ref_universal 2 = .ok (.putfield 44, 3) := by decide +kernel
theorem d_Ref_universal_5 : decode c_Ref_universal 5 = .ok (.aload_n 0, 1) := by decide +kernel
theorem d_Ref_universal_6 : decode c_Ref_universal 6 = .ok (.iload_n 1, 1) := by decide +kernel
theorem d_Ref_universal_7 : decode c_Ref_universal 7 = .ok (.lload_n 2, 1) := by decide +kernel
theorem d_Ref_universal_8 : decode c_Ref_universal 8 = .ok (.invokevirtual 137, 3) := by decide +kernel
theorem d_Ref_universal_11 : decode c_Ref_universal 11 = .ok (.ifCond .eq 10, 3) := by decide +kernel
theorem d_Ref_universal_14 : decode c_Ref_universal 14 = .ok (.aload_n 0, 1) := by decide +kernel
theorem d_Ref_universal_15 : decode c_Ref_universal 15 = .ok (.iconst 1, 1) := by decide +kernel
theorem d_Ref_universal_16 : decode c_Ref_universal 16 = .ok (.invokevirtual 141, 3) := by decide +kernel
theorem d_Ref_universal_19 : decode c_Ref_universal 19 = .ok (.i2l, 1) := by decide +kernel
theorem d_Ref_universal_20 : decode c_Ref_universal 20 = .ok (.lreturn, 1) := by decide +kernel
theorem d_Ref_universal_21 : decode c_Ref_universal 21 = .ok (.aload_n 0, 1) := by decide +kernel
theorem d_Ref_universal_22 : decode c_Ref_universal 22 = .ok (.iload_n 1, 1) := by decide +kernel
theorem d_Ref_universal_23 : decode c_Ref_universal 23 = .ok (.lload_n 2, 1) := by decide +kernel
theorem d_Ref_universal_24 : decode c_Ref_universal 24 = .ok (.invokevirtual 148, 3) := by decide +kernel
theorem d_Ref_universal_27 : decode c_Ref_universal 27 = .ok (.istore 5, 2) := by decide +kernel
theorem d_Ref_universal_29 : decode c_Ref_universal 29 = .ok (.iload 5, 2) := by decide +kernel
theorem d_Ref_universal_31 : decode c_Ref_universal 31 = .ok (.ifCond .ne 12, 3) := by decide +kernel
theorem d_Ref_universal_34 : decode c_Ref_universal 34 = .ok (.aload_n 0, 1) := by decide +kernel
theorem d_Ref_universal_35 : decode c_Ref_universal 35 = .ok (.iconst 2, 1) := by decide +kernel
theorem d_Ref_universal_36 : decode c_Ref_universal 36 = .ok (.invokevirtual 141, 3) := by decide +kernel
theorem d_Ref_universal_39 : decode c_Ref_universal 39 = .ok (.i2l, 1) := by decide +kernel
theorem d_Ref_universal_40 : decode c_Ref_universal 40 = .ok (.goto 21, 3) := by decide +kernel
theorem d_Ref_universal_43 : decode c_Ref_universal 43 = .ok (.aload_n 0, 1) := by decide +kernel
theorem d_Ref_universal_44 : decode c_Ref_universal 44 = .ok (.getfield 40, 3) := by decide +kernel
theorem d_Ref_universal_47 : decode c_Ref_universal 47 = .ok (.iload 4, 2) := by decide +kernel
theorem d_Ref_universal_49 : decode c_Ref_universal 49 = .ok (.ifCond .eq 10, 3) := by decide +kernel
theorem d_Ref_universal_52 : decode c_Ref_universal 52 = .ok (.iload 5, 2) := by decide +kernel
theorem d_Ref_universal_54 : decode c_Ref_universal 54 = .ok (.iconst 1, 1) := by decide +kernel
theorem d_Ref_universal_55 : decode c_Ref_universal 55 = .ok (.isub, 1) := by decide +kernel
theorem d_Ref_universal_56 : decode c_Ref_universal 56 = .ok (.goto 4, 3) := by decide +kernel
theorem d_Ref_universal_59 : decode c_Ref_universal 59 = .ok (.iconst 0, 1) := by decide +kernel
theorem d_Ref_universal_60 : decode c_Ref_universal 60 = .ok (.laload, 1) := by decide +kernel
theorem d_Ref_universal_61 : decode c_Ref_universal 61 = .ok (.lreturn, 1) := by decide +kernel
theorem d_Ref_change_0 : decode c_Ref_change 0 = .ok (.aload_n 0, 1) := by decide +kernel
theorem d_Ref_change_1 : decode c_Ref_change 1 = .ok (.iconst 0, 1) := by decide +kernel
theorem d_Ref_change_2 : decode c_Ref_change 2 = .ok (.putfield 44, 3) := by decide +kernel
theorem d_Ref_change_5 : decode c_Ref_change 5 = .ok (.aload_n 0, 1) := by decide +kernel
theorem d_Ref_change_6 : decode c_Ref_change 6 = .ok (.iload_n 1, 1) := by decide +kernel
theorem d_Ref_change_7 : decode c_Ref_change 7 = .ok (.lload_n 2, 1) := by decide +kernel
theorem d_Ref_change_8 : decode c_Ref_change 8 = .ok (.invokevirtual 137, 3) := by decide +kernel
theorem d_Ref_change_11 : decode c_Ref_change 11 = .ok (.ifCond .eq 10, 3) := by decide +kernel
theorem d_Ref_change_14 : decode c_Ref_change 14 = .ok (.aload_n 0, 1) := by decide +kernel
theorem d_Ref_change_15 : decode c_Ref_change 15 = .ok (.iconst 1, 1) := by decide +kernel
theorem d_Ref_change_16 : decode c_Ref_change 16 = .ok (.invokevirtual 141, 3) := by decide +kernel
theorem d_Ref_change_19 : decode c_Ref_change 19 = .ok (.i2l, 1) := by decide +kernel
theorem d_Ref_change_20 : decode c_Ref_change 20 = .ok (.lreturn, 1) := by decide +kernel
theorem d_Ref_change_21 : decode c_Ref_change 21 = .ok (.aload_n 0, 1) := by decide +kernel
theorem d_Ref_change_22 : decode c_Ref_change 22 = .ok (.iload_n 1, 1) := by decide +kernel
theorem d_Ref_change_23 : decode c_Ref_change 23 = .ok (.lload_n 2, 1) := by decide +kernel
theorem d_Ref_change_24 : decode c_Ref_change 24 = .ok (.invokevirtual 128, 3) := by decide +kernel
theorem d_Ref_change_27 : decode c_Ref_change 27 = .ok (.istore 5, 2) := by decide +kernel
theorem d_Ref_change_29 : decode c_Ref_change 29 = .ok (.iload 4, 2) := by decide +kernel
theorem d_Ref_change_31 : decode c_Ref_change 31 = .ok (.ifCond .eq 42, 3) := by decide +kernel
theorem d_Ref_change_34 : decode c_Ref_change 34 = .ok (.iload 5, 2) := by decide +kernel
theorem d_Ref_change_36 : decode c_Ref_change 36 = .ok (.ifCond .eq 19, 3) := by decide +kernel
theorem d_Ref_change_39 : decode c_Ref_change 39 = .ok (.aload_n 0, 1) := by decide +kernel
theorem d_Ref_change_40 : decode c_Ref_change 40 = .ok (.getfield 26, 3) := by decide +kernel
theorem d_Ref_change_43 : decode c_Ref_change 43 = .ok (.iload_n 1, 1) := by decide +kernel
theorem d_Ref_change_44 : decode c_Ref_change 44 = .ok (.aaload, 1) := by decide +kernel
theorem d_Ref_change_45 : decode c_Ref_change 45 = .ok (.iload 5, 2) := by decide +kernel
theorem d_Ref_change_47 : decode c_Ref_change 47 = .ok (.iconst 1, 1) := by decide +kernel
theorem d_Ref_change_48 : decode c_Ref_change 48 = .ok (.isub, 1) := by decide +kernel
theorem d_Ref_change_49 : decode c_Ref_change 49 = .ok (.laload, 1) := by decide +kernel
theorem d_Ref_change_50 : decode c_Ref_change 50 = .ok (.lconst 0, 1) := by decide +kernel
theorem d_Ref_change_51 : decode c_Ref_change 51 = .ok (.lcmp, 1) := by decide +kernel
theorem d_Ref_change_52 : decode c_Ref_change 52 = .ok (.ifCond .ge 9, 3) := by decide +kernel
theorem d_Ref_change_55 : decode c_Ref_change 55 = .ok (.ldc2_w 151, 3) := by decide +kernel
theorem d_Ref_change_58 : decode c_Ref_change 58 = .ok (.goto 14, 3) := by decide +kernel
theorem d_Ref_change_61 : decode c_Ref_change 61 = .ok (.aload_n 0, 1) := by decide +kernel
theorem d_Ref_change_62 : decode c_Ref_change 62 = .ok (.getfield 26, 3) := by decide +kernel
theorem d_Ref_change_65 : decode c_Ref_change 65 = .ok (.iload_n 1, 1) := by decide +kernel
theorem d_Ref_change_66 : decode c_Ref_change 66 = .ok (.aaload, 1) := by decide +kernel
theorem d_Ref_change_67 : decode c_Ref_change 67 = .ok (.iload 5, 2) := by decide +kernel
theorem d_Ref_change_69 : decode c_Ref_change 69 = .ok (.iconst 1, 1) := by decide +kernel
theorem d_Ref_change_70 : decode c_Ref_change 70 = .ok (.isub, 1) := by decide +kernel
theorem d_Ref_change_71 : decode c_Ref_change 71 = .ok (.laload, 1) := by decide +kernel
theorem d_Ref_change_72 : decode c_Ref_change 72 = .ok (.lreturn, 1) := by decide +kernel
theorem d_Ref_change_73 : decode c_Ref_change 73 = .ok (.iload 5, 2) := by decide +kernel
theorem d_Ref_change_75 : decode c_Ref_change 75 = .ok (.aload_n 0, 1) := by decide +kernel
theorem d_Ref_change_76 : decode c_Ref_change 76 = .ok (.getfield 34, 3) := by decide +kernel
theorem d_Ref_change_79 : decode c_Ref_change 79 = .ok (.iload_n 1, 1) := by decide +kernel
theorem d_Ref_change_80 : decode c_Ref_change 80 = .ok (.iaload, 1) := by decide +kernel
theorem d_Ref_change_81 : decode c_Ref_change 81 = .ok (.if_icmp .ne 9, 3) := by decide +kernel
theorem d_Ref_change_84 : decode c_Ref_change 84 = .ok (.ldc2_w 151, 3) := by decide +kernel
theorem d_Ref_change_87 : decode c_Ref_change 87 = .ok (.goto 12, 3) := by decide +kernel
theorem d_Ref_change_90 : decode c_Ref_change 90 = .ok (.aload_n 0, 1) := by decide +kernel
theorem d_Ref_change_91 : decode c_Ref_change 91 = .ok (.getfield 26, 3) := by decide +kernel
theorem d_Ref_change_94 : decode c_Ref_change 94 = .ok (.iload_n 1, 1) := by decide +kernel
theorem d_Ref_change_95 : decode c_Ref_change 95 = .ok (.aaload, 1) := by decide +kernel
theorem d_Ref_change_96 : decode c_Ref_change 96 = .ok (.iload 5, 2) := by decide +kernel
theorem d_Ref_change_98 : decode c_Ref_change 98 = .ok (.laload, 1) := by decide +kernel
theorem d_Ref_change_99 : decode c_Ref_change 99 = .ok (.lreturn, 1) := by decide +kernel
theorem d_Ref_field_0 : decode c_Ref_field 0 = .ok (.aload_n 0, 1) := by decide +kernel
theorem d_Ref_field_1 : decode c_Ref_field 1 = .ok (.iconst 0, 1) := by decide +kernel
theorem d_Ref_field_2 : decode c_Ref_field 2 = .ok (.putfield 44, 3) := by decide +kernel
theorem d_Ref_field_5 : decode c_Ref_field 5 = .ok (.aload_n 0, 1) := by decide +kernel
theorem d_Ref_field_6 : decode c_Ref_field 6 = .ok (.iload_n 1, 1) := by decide +kernel
theorem d_Ref_field_7 : decode c_Ref_field 7 = .ok (.lload_n 2, 1) := by decide +kernel
theorem d_Ref_field_8 : decode c_Ref_field 8 = .ok (.invokevirtual 137, 3) := by decide +kernel
theorem d_Ref_field_11 : decode c_Ref_field 11 = .ok (.ifCond .ne 15, 3) := by decide +kernel
theorem d_Ref_field_14 : decode c_Ref_field 14 = .ok (.iload 4, 2) := by decide +kernel
theorem d_Ref_field_16 : decode c_Ref_field 16 = .ok (.ifCond .lt 10, 3) := by decide +kernel
theorem d_Ref_field_19 : decode c_Ref_field 19 = .ok (.iload 4, 2) := by decide +kernel
theorem d_Ref_field_21 : decode c_Ref_field 21 = .ok (.bipush 8, 2) := by decide +kernel
theorem d_Ref_field_23 : decode c_Ref_field 23 = .ok (.if_icmp .le 9, 3) := by decide +kernel
theorem d_Ref_field_26 : decode c_Ref_field 26 = .ok (.aload_n 0, 1) := by decide +kernel
theorem d_Ref_field_27 : decode c_Ref_field 27 = .ok (.iconst 1, 1) := by decide +kernel
theorem d_Ref_field_28 : decode c_Ref_field 28 = .ok (.invokevirtual 141, 3) := by decide +kernel
theorem d_Ref_field_31 : decode c_Ref_field 31 = .ok (.ireturn, 1) := by decide +kernel
theorem d_Ref_field_32 : decode c_Ref_field 32 = .ok (.aload_n 0, 1) := by decide +kernel
theorem d_Ref_field_33 : decode c_Ref_field 33 = .ok (.iload_n 1, 1) := by decide +kernel
theorem d_Ref_field_34 : decode c_Ref_field 34 = .ok (.lload_n 2, 1) := by decide +kernel
theorem d_Ref_field_35 : decode c_Ref_field 35 = .ok (.invokevirtual 128, 3) := by decide +kernel
theorem d_Ref_field_38 : decode c_Ref_field 38 = .ok (.istore 5, 2) := by decide +kernel
theorem d_Ref_field_40 : decode c_Ref_field 40 = .ok (.lload_n 2, 1) := by decide +kernel
theorem d_Ref_field_41 : decode c_Ref_field 41 = .ok (.ldc2_w 153, 3) := by decide +kernel
theorem d_Ref_field_44 : decode c_Ref_field 44 = .ok (.invokestatic 155, 3) := by decide +kernel
theorem d_Ref_field_47 : decode c_Ref_field 47 = .ok (.ldc2_w 158, 3) := by decide +kernel
theorem d_Ref_field_50 : decode c_Ref_field 50 = .ok (.aload_n 0, 1) := by decide +kernel
theorem d_Ref_field_51 : decode c_Ref_field 51 = .ok (.iload_n 1, 1) := by decide +kernel
theorem d_Ref_field_52 : decode c_Ref_field 52 = .ok (.iload 5, 2) := by decide +kernel
theorem d_Ref_field_54 : decode c_Ref_field 54 = .ok (.invokevirtual 132, 3) := by decide +kernel
theorem d_Ref_field_57 : decode c_Ref_field 57 = .ok (.i2l, 1) := by decide +kernel
theorem d_Ref_field_58 : decode c_Ref_field 58 = .ok (.lmul, 1) := by decide +kernel
theorem d_Ref_field_59 : decode c_Ref_field 59 = .ok (.ladd, 1) := by decide +kernel
theorem d_Ref_field_60 : decode c_Ref_field 60 = .ok (.lstore 6, 2) := by decide +kernel
theorem d_Ref_field_62 : decode c_Ref_field 62 = .ok (.lload 6, 2) := by decide +kernel
theorem d_Ref_field_64 : decode c_Ref_field 64 = .ok (.ldc2_w 160, 3) := by decide +kernel
theorem d_Ref_field_67 : decode c_Ref_field 67 = .ok (.invokestatic 155, 3) := by decide +kernel
theorem d_Ref_field_70 : decode c_Ref_field 70 = .ok (.l2i, 1) := by decide +kernel
theorem d_Ref_field_71 : decode c_Ref_field 71 = .ok (.istore 8, 2) := by decide +kernel
theorem d_Ref_field_73 : decode c_Ref_field 73 = .ok (.lload 6, 2) := by decide +kernel
theorem d_Ref_field_75 : decode c_Ref_field 75 = .ok (.ldc2_w 160, 3) := by decide +kernel
theorem d_Ref_field_78 : decode c_Ref_field 78 = .ok (.invokestatic 162, 3) := by decide +kernel
theorem d_Ref_field_81 : decode c_Ref_field 81 = .ok (.l2i, 1) := by decide +kernel
theorem d_Ref_field_82 : decode c_Ref_field 82 = .ok (.istore 9, 2) := by decide +kernel
theorem d_Ref_field_84 : decode c_Ref_field 84 = .ok (.aload_n 0, 1) := by decide +kernel
theorem d_Ref_field_85 : decode c_Ref_field 85 = .ok (.iload 8, 2) := by decide +kernel
theorem d_Ref_field_87 : decode c_Ref_field 87 = .ok (.invokevirtual 164, 3) := by decide +kernel
theorem d_Ref_field_90 : decode c_Ref_field 90 = .ok (.iload 4, 2) := by decide +kernel
theorem d_Ref_field_92 : decode c_Ref_field 92 = .ok (.tableswitch 99 0 7 #[48, 54, 63, 70, 75, 80, 85, 91], 48) := by decide +kernel
theorem d_Ref_field_140 : decode c_Ref_field 140 = .ok (.iload 9, 2) := by decide +kernel
theorem d_Ref_field_142 : decode c_Ref_field 142 = .ok (.bipush 60, 2) := by decide +kernel
theorem d_Ref_field_144 : decode c_Ref_field 144 = .ok (.irem, 1) := by decide +kernel
theorem d_Ref_field_145 : decode c_Ref_field 145 = .ok (.ireturn, 1) := by decide +kernel
theorem d_Ref_field_146 : decode c_Ref_field 146 = .ok (.iload 9, 2) := by decide +kernel
theorem d_Ref_field_148 : decode c_Ref_field 148 = .ok (.bipush 60, 2) := by decide +kernel
theorem d_Ref_field_150 : decode c_Ref_field 150 = .ok (.idiv, 1) := by decide +kernel
theorem d_Ref_field_151 : decode c_Ref_field 151 = .ok (.bipush 60, 2) := by decide +kernel
theorem d_Ref_field_153 : decode c_Ref_field 153 = .ok (.irem, 1) := by decide +kernel
theorem d_Ref_field_154 : decode c_Ref_field 154 = .ok (.ireturn, 1) := by decide +kernel
theorem d_Ref_field_155 : decode c_Ref_field 155 = .ok (.iload 9, 2) := by decide +kernel
theorem d_Ref_field_157 : decode c_Ref_field 157 = .ok (.sipush 3600, 3) := by decide +kernel
theorem d_Ref_field_160 : decode c_Ref_field 160 = .ok (.idiv, 1) := by decide +kernel
theorem d_Ref_field_161 : decode c_Ref_field 161 = .ok (.ireturn, 1) := by decide +kernel
theorem d_Ref_field_162 : decode c_Ref_field 162 = .ok (.aload_n 0, 1) := by decide +kernel
theorem d_Ref_field_163 : decode c_Ref_field 163 = .ok (.getfield 69, 3) := by decide +kernel
theorem d_Ref_field_166 : decode c_Ref_field 166 = .ok (.ireturn, 1) := by decide +kernel
theorem d_Ref_field_167 : decode c_Ref_field 167 = .ok (.aload_n 0, 1) := by decide +kernel
theorem d_Ref_field_168 : decode c_Ref_field 168 = .ok (.getfield 66, 3) := by decide +kernel
theorem d_Ref_field_171 : decode c_Ref_field 171 = .ok (.ireturn, 1) := by decide +kernel
theorem d_Ref_field_172 : decode c_Ref_field 172 = .ok (.aload_n 0, 1) := by decide +kernel
theorem d_Ref_field_173 : decode c_Ref_field 173 = .ok (.getfield 60, 3) := by decide +kernel
theorem d_Ref_field_176 : decode c_Ref_field 176 = .ok (.ireturn, 1) := by decide +kernel
theorem d_Ref_field_177 : decode c_Ref_field 177 = .ok (.iload 8, 2) := by decide +kernel
theorem d_Ref_field_179 : decode c_Ref_field 179 = .ok (.invokestatic 105, 3) := by decide +kernel
theorem d_Ref_field_182 : decode c_Ref_field 182 = .ok (.ireturn, 1) := by decide +kernel
theorem d_Ref_field_183 : decode c_Ref_field 183 = .ok (.aload_n 0, 1) := by decide +kernel
theorem d_Ref_field_184 : decode c_Ref_field 184 = .ok (.iload_n 1, 1) := by decide +kernel
theorem d_Ref_field_185 : decode c_Ref_field 185 = .ok (.iload 5, 2) := by decide +kernel
theorem d_Ref_field_187 : decode c_Ref_field 187 = .ok (.invokevirtual 132, 3) := by decide +kernel
theorem d_Ref_field_190 : decode c_Ref_field 190 = .ok (.ireturn, 1) := by decide +kernel
theorem d_Ref_field_191 : decode c_Ref_field 191 = .ok (.aload_n 0, 1) := by decide +kernel
theorem d_Ref_field_192 : decode c_Ref_field 192 = .ok (.iload_n 1, 1) := by decide +kernel
theorem d_Ref_field_193 : decode c_Ref_field 193 = .ok (.iload 5, 2) := by decide +kernel
theorem d_Ref_field_195 : decode c_Ref_field 195 = .ok (.invokevirtual 167, 3) := by decide +kernel
theorem d_Ref_field_198 : decode c_Ref_field 198 = .ok (.ifCond .eq 7, 3) := by decide +kernel
theorem d_Ref_field_201 : decode c_Ref_field 201 = .ok (.iconst 1, 1) := by decide +kernel
theorem d_Ref_field_202 : decode c_Ref_field 202 = .ok (.goto 4, 3) := by decide +kernel
theorem d_Ref_field_205 : decode c_Ref_field 205 = .ok (.iconst 0, 1) := by decide +kernel
theorem d_Ref_field_206 : decode c_Ref_field 206 = .ok (.ireturn, 1) := by decide +kernel
theorem d_Ref_date_0 : decode c_Ref_date 0 = .ok (.aload_n 0, 1) := by decide +kernel
theorem d_Ref_date_1 : decode c_Ref_date 1 = .ok (.sipush 1970, 3) := by decide +kernel
theorem d_Ref_date_4 : decode c_Ref_date 4 = .ok (.iload_n 1, 1) := by decide +kernel
theorem d_Ref_date_5 : decode c_Ref_date 5 = .ok (.sipush 365, 3) := by decide +kernel
theorem d_Ref_date_8 : decode c_Ref_date 8 = .ok (.invokestatic 55, 3) := by decide +kernel
theorem d_Ref_date_11 : decode c_Ref_date 11 = .ok (.iadd, 1) := by decide +kernel
theorem d_Ref_date_12 : decode c_Ref_date 12 = .ok (.putfield 60, 3) := by decide +kernel
theorem d_Ref_date_15 : decode c_Ref_date 15 = .ok (.aload_n 0, 1) := by decide +kernel
theorem d_Ref_date_16 : decode c_Ref_date 16 = .ok (.getfield 60, 3) := by decide +kernel
theorem d_Ref_date_19 : decode c_Ref_date 19 = .ok (.iconst 1, 1) := by decide +kernel
theorem d_Ref_date_20 : decode c_Ref_date 20 = .ok (.invokestatic 63, 3) := by decide +kernel
theorem d_Ref_date_23 : decode c_Ref_date 23 = .ok (.iload_n 1, 1) := by decide +kernel
theorem d_Ref_date_24 : decode c_Ref_date 24 = .ok (.if_icmp .le 16, 3) := by decide +kernel
theorem d_Ref_date_27 : decode c_Ref_date 27 = .ok (.aload_n 0, 1) := by decide +kernel
theorem d_Ref_date_28 : decode c_Ref_date 28 = .ok (.dup, 1) := by decide +kernel
theorem d_Ref_date_29 : decode c_Ref_date 29 = .ok (.getfield 60, 3) := by decide +kernel
theorem d_Ref_date_32 : decode c_Ref_date 32 = .ok (.iconst 1, 1) := by decide +kernel
theorem d_Ref_date_33 : decode c_Ref_date 33 = .ok (.isub, 1) := by decide +kernel
theorem d_Ref_date_34 : decode c_Ref_date 34 = .ok (.putfield 60, 3) := by decide +kernel
theorem d_Ref_date_37 : decode c_Ref_date 37 = .ok (.goto (-22), 3) := by decide +kernel
theorem d_Ref_date_40 : decode c_Ref_date 40 = .ok (.iload_n 1, 1) := by decide +kernel
theorem d_Ref_date_41 : decode c_Ref_date 41 = .ok (.aload_n 0, 1) := by decide +kernel
theorem d_Ref_date_42 : decode c_Ref_date 42 = .ok (.getfield 60, 3) := by decide +kernel
theorem d_Ref_date_45 : decode c_Ref_date 45 = .ok (.iconst 1, 1) := by decide +kernel
theorem d_Ref_date_46 : decode c_Ref_date 46 = .ok (.invokestatic 63, 3) := by decide +kernel
theorem d_Ref_date_49 : decode c_Ref_date 49 = .ok (.isub, 1) := by decide +kernel
theorem d_Ref_date_50 : decode c_Ref_date 50 = .ok (.istore_n 2, 1) := by decide +kernel
theorem d_Ref_date_51 : decode c_Ref_date 51 = .ok (.aload_n 0, 1) := by decide +kernel
theorem d_Ref_date_52 : decode c_Ref_date 52 = .ok (.iconst 1, 1) := by decide +kernel
theorem d_Ref_date_53 : decode c_Ref_date 53 = .ok (.putfield 66, 3) := by decide +kernel
theorem d_Ref_date_56 : decode c_Ref_date 56 = .ok (.iload_n 2, 1) := by decide +kernel
theorem d_Ref_date_57 : decode c_Ref_date 57 = .ok (.aload_n 0, 1) := by decide +kernel
theorem d_Ref_date_58 : decode c_Ref_date 58 = .ok (.getfield 60, 3) := by decide +kernel
theorem d_Ref_date_61 : decode c_Ref_date 61 = .ok (.aload_n 0, 1) := by decide +kernel
theorem d_Ref_date_62 : decode c_Ref_date 62 = .ok (.getfield 66, 3) := by decide +kernel
theorem d_Ref_date_65 : decode c_Ref_date 65 = .ok (.invokestatic 51, 3) := by decide +kernel
theorem d_Ref_date_68 : decode c_Ref_date 68 = .ok (.if_icmp .lt 30, 3) := by decide +kernel
theorem d_Ref_date_71 : decode c_Ref_date 71 = .ok (.iload_n 2, 1) := by decide +kernel
theorem d_Ref_date_72 : decode c_Ref_date 72 = .ok (.aload_n 0, 1) := by decide +kernel
theorem d_Ref_date_73 : decode c_Ref_date 73 = .ok (.getfield 60, 3) := by decide +kernel
theorem d_Ref_date_76 : decode c_Ref_date 76 = .ok (.aload_n 0, 1) := by decide +kernel
theorem d_Ref_date_77 : decode c_Ref_date 77 = .ok (.getfield 66, 3) := by decide +kernel
theorem d_Ref_date_80 : decode c_Ref_date 80 = .ok (.invokestatic 51, 3) := by decide +kernel
theorem d_Ref_date_83 : decode c_Ref_date 83 = .ok (.isub, 1) := by decide +kernel
theorem d_Ref_date_84 : decode c_Ref_date 84 = .ok (.istore_n 2, 1) := by decide +kernel
theorem d_Ref_date_85 : decode c_Ref_date 85 = .ok (.aload_n 0, 1) := by decide +kernel
theorem d_Ref_date_86 : decode c_Ref_date 86 = .ok (.dup, 1) := by decide +kernel
theorem d_Ref_date_87 : decode c_Ref_date 87 = .ok (.getfield 66, 3) := by decide +kernel
theorem d_Ref_date_90 : decode c_Ref_date 90 = .ok (.iconst 1, 1) := by decide +kernel
theorem d_Ref_date_91 : decode c_Ref_date 91 = .ok (.iadd, 1) := by decide +kernel
theorem d_Ref_date_92 : decode c_Ref_date 92 = .ok (.putfield 66, 3) := by decide +kernel
theorem d_Ref_date_95 : decode c_Ref_date 95 = .ok (.goto (-39), 3) := by decide +kernel
theorem d_Ref_date_98 : decode c_Ref_date 98 = .ok (.aload_n 0, 1) := by decide +kernel
theorem d_Ref_date_99 : decode c_Ref_date 99 = .ok (.iload_n 2, 1) := by decide +kernel
theorem d_Ref_date_100 : decode c_Ref_date 100 = .ok (.iconst 1, 1) := by decide +kernel
theorem d_Ref_date_101 : decode c_Ref_date 101 = .ok (.iadd, 1) := by decide +kernel
theorem d_Ref_date_102 : decode c_Ref_date 102 = .ok (.putfield 69, 3) := by decide +kernel
theorem d_Ref_date_105 : decode c_Ref_date 105 = .ok (.return_, 1) := by decide +kernel
theorem d_Ref_summer_0 : decode c_Ref_summer 0 = .ok (.iload_n 2, 1) := by decide +kernel
theorem d_Ref_summer_1 : decode c_Ref_summer 1 = .ok (.ifCond .le 20, 3) := by decide +kernel
theorem d_Ref_summer_4 : decode c_Ref_summer 4 = .ok (.aload_n 0, 1) := by decide +kernel
theorem d_Ref_summer_5 : decode c_Ref_summer 5 = .ok (.getfield 31, 3) := by decide +kernel
theorem d_Ref_summer_8 : decode c_Ref_summer 8 = .ok (.iload_n 1, 1) := by decide +kernel
theorem d_Ref_summer_9 : decode c_Ref_summer 9 = .ok (.aaload, 1) := by decide +kernel
theorem d_Ref_summer_10 : decode c_Ref_summer 10 = .ok (.iload_n 2, 1) := by decide +kernel
theorem d_Ref_summer_11 : decode c_Ref_summer 11 = .ok (.iconst 1, 1) := by decide +kernel
theorem d_Ref_summer_12 : decode c_Ref_summer 12 = .ok (.isub, 1) := by decide +kernel
theorem d_Ref_summer_13 : decode c_Ref_summer 13 = .ok (.baload, 1) := by decide +kernel
theorem d_Ref_summer_14 : decode c_Ref_summer 14 = .ok (.ifCond .eq 7, 3) := by decide +kernel
theorem d_Ref_summer_17 : decode c_Ref_summer 17 = .ok (.iconst 1, 1) := by decide +kernel
theorem d_Ref_summer_18 : decode c_Ref_summer 18 = .ok (.goto 4, 3) := by decide +kernel
theorem d_Ref_summer_21 : decode c_Ref_summer 21 = .ok (.iconst 0, 1) := by decide +kernel
theorem d_Ref_summer_22 : decode c_Ref_summer 22 = .ok (.ireturn, 1) := by decide +kernel
theorem d_Ref_place_0 : decode c_Ref_place 0 = .ok (.aload_n 0, 1) := by decide +kernel
theorem d_Ref_place_1 : decode c_Ref_place 1 = .ok (.iconst 0, 1) := by decide +kernel
theorem d_Ref_place_2 : decode c_Ref_place 2 = .ok (.putfield 44, 3) := by decide +kernel
theorem d_Ref_place_5 : decode c_Ref_place 5 = .ok (.aload_n 0, 1) := by decide +kernel
theorem d_Ref_place_6 : decode c_Ref_place 6 = .ok (.getfield 13, 3) := by decide +kernel
theorem d_Ref_place_9 : decode c_Ref_place 9 = .ok (.ireturn, 1) := by decide +kernel
theorem d_Ref_feed_0 : decode c_Ref_feed 0 = .ok (.aload_n 0, 1) := by decide +kernel
theorem d_Ref_feed_1 : decode c_Ref_feed 1 = .ok (.iconst 0, 1) := by decide +kernel
theorem d_Ref_feed_2 : decode c_Ref_feed 2 = .ok (.putfield 44, 3) := by decide +kernel
theorem d_Ref_feed_5 : decode c_Ref_feed 5 = .ok (.aload_n 0, 1) := by decide +kernel
theorem d_Ref_feed_6 : decode c_Ref_feed 6 = .ok (.getfield 81, 3) := by decide +kernel
theorem d_Ref_feed_9 : decode c_Ref_feed 9 = .ok (.bipush 20, 2) := by decide +kernel
theorem d_Ref_feed_11 : decode c_Ref_feed 11 = .ok (.iadd, 1) := by decide +kernel
theorem d_Ref_feed_12 : decode c_Ref_feed 12 = .ok (.sipush 400, 3) := by decide +kernel
theorem d_Ref_feed_15 : decode c_Ref_feed 15 = .ok (.if_icmp .le 9, 3) := by decide +kernel
theorem d_Ref_feed_18 : decode c_Ref_feed 18 = .ok (.aload_n 0, 1) := by decide +kernel
theorem d_Ref_feed_19 : decode c_Ref_feed 19 = .ok (.iconst 1, 1) := by decide +kernel
theorem d_Ref_feed_20 : decode c_Ref_feed 20 = .ok (.invokevirtual 141, 3) := by decide +kernel
theorem d_Ref_feed_23 : decode c_Ref_feed 23 = .ok (.ireturn, 1) := by decide +kernel
theorem d_Ref_feed_24 : decode c_Ref_feed 24 = .ok (.iconst 0, 1) := by decide +kernel
theorem d_Ref_feed_25 : decode c_Ref_feed 25 = .ok (.istore 6, 2) := by decide +kernel
theorem d_Ref_feed_27 : decode c_Ref_feed 27 = .ok (.iload 6, 2) := by decide +kernel
theorem d_Ref_feed_29 : decode c_Ref_feed 29 = .ok (.bipush 20, 2) := by decide +kernel
theorem d_Ref_feed_31 : decode c_Ref_feed 31 = .ok (.if_icmp .ge 90, 3) := by decide +kernel
theorem d_Ref_feed_34 : decode c_Ref_feed 34 = .ok (.iload 6, 2) := by decide +kernel
theorem d_Ref_feed_36 : decode c_Ref_feed 36 = .ok (.iconst 4, 1) := by decide +kernel
theorem d_Ref_feed_37 : decode c_Ref_feed 37 = .ok (.if_icmp .ge 7, 3) := by decide +kernel
theorem d_Ref_feed_40 : decode c_Ref_feed 40 = .ok (.iload_n 1, 1) := by decide +kernel
theorem d_Ref_feed_41 : decode c_Ref_feed 41 = .ok (.goto 39, 3) := by decide +kernel
theorem d_Ref_feed_44 : decode c_Ref_feed 44 = .ok (.iload 6, 2) := by decide +kernel
theorem d_Ref_feed_46 : decode c_Ref_feed 46 = .ok (.bipush 8, 2) := by decide +kernel
theorem d_Ref_feed_48 : decode c_Ref_feed 48 = .ok (.if_icmp .ge 7, 3) := by decide +kernel
theorem d_Ref_feed_51 : decode c_Ref_feed 51 = .ok (.iload_n 2, 1) := by decide +kernel
theorem d_Ref_feed_52 : decode c_Ref_feed 52 = .ok (.goto 28, 3) := by decide +kernel
theorem d_Ref_feed_55 : decode c_Ref_feed 55 = .ok (.iload 6, 2) := by decide +kernel
theorem d_Ref_feed_57 : decode c_Ref_feed 57 = .ok (.bipush 12, 2) := by decide +kernel
theorem d_Ref_feed_59 : decode c_Ref_feed 59 = .ok (.if_icmp .ge 7, 3) := by decide +kernel
theorem d_Ref_feed_62 : decode c_Ref_feed 62 = .ok (.iload_n 3, 1) := by decide +kernel
theorem d_Ref_feed_63 : decode c_Ref_feed 63 = .ok (.goto 17, 3) := by decide +kernel
theorem d_Ref_feed_66 : decode c_Ref_feed 66 = .ok (.iload 6, 2) := by decide +kernel
theorem d_Ref_feed_68 : decode c_Ref_feed 68 = .ok (.bipush 16, 2) := by decide +kernel
theorem d_Ref_feed_70 : decode c_Ref_feed 70 = .ok (.if_icmp .ge 8, 3) := by decide +kernel
theorem d_Ref_feed_73 : decode c_Ref_feed 73 = .ok (.iload 4, 2) := by decide +kernel
theorem d_Ref_feed_75 : decode c_Ref_feed 75 = .ok (.goto 5, 3) := by decide +kernel
theorem d_Ref_feed_78 : decode c_Ref_feed 78 = .ok (.iload 5, 2) := by decide +kernel
theorem d_Ref_feed_80 : decode c_Ref_feed 80 = .ok (.istore 7, 2) := by decide +kernel
theorem d_Ref_feed_82 : decode c_Ref_feed 82 = .ok (.aload_n 0, 1) := by decide +kernel
theorem d_Ref_feed_83 : decode c_Ref_feed 83 = .ok (.getfield 7, 3) := by decide +kernel
theorem d_Ref_feed_86 : decode c_Ref_feed 86 = .ok (.aload_n 0, 1) := by decide +kernel
theorem d_Ref_feed_87 : decode c_Ref_feed 87 = .ok (.getfield 81, 3) := by decide +kernel
theorem d_Ref_feed_90 : decode c_Ref_feed 90 = .ok (.iload 7, 2) := by decide +kernel
theorem d_Ref_feed_92 : decode c_Ref_feed 92 = .ok (.bipush 24, 2) := by decide +kernel
theorem d_Ref_feed_94 : decode c_Ref_feed 94 = .ok (.bipush 8, 2) := by decide +kernel
theorem d_Ref_feed_96 : decode c_Ref_feed 96 = .ok (.iload 6, 2) := by decide +kernel
theorem d_Ref_feed_98 : decode c_Ref_feed 98 = .ok (.iconst 4, 1) := by decide +kernel
theorem d_Ref_feed_99 : decode c_Ref_feed 99 = .ok (.irem, 1) := by decide +kernel
theorem d_Ref_feed_100 : decode c_Ref_feed 100 = .ok (.imul, 1) := by decide +kernel
theorem d_Ref_feed_101 : decode c_Ref_feed 101 = .ok (.isub, 1) := by decide +kernel
theorem d_Ref_feed_102 : decode c_Ref_feed 102 = .ok (.ishr, 1) := by decide +kernel
theorem d_Ref_feed_103 : decode c_Ref_feed 103 = .ok (.i2b, 1) := by decide +kernel
theorem d_Ref_feed_104 : decode c_Ref_feed 104 = .ok (.bastore, 1) := by decide +kernel
theorem d_Ref_feed_105 : decode c_Ref_feed 105 = .ok (.aload_n 0, 1) := by decide +kernel
theorem d_Ref_feed_106 : decode c_Ref_feed 106 = .ok (.dup, 1) := by decide +kernel
theorem d_Ref_feed_107 : decode c_Ref_feed 107 = .ok (.getfield 81, 3) := by decide +kernel
theorem d_Ref_feed_110 : decode c_Ref_feed 110 = .ok (.iconst 1, 1) := by decide +kernel
theorem d_Ref_feed_111 : decode c_Ref_feed 111 = .ok (.iadd, 1) := by decide +kernel
theorem d_Ref_feed_112 : decode c_Ref_feed 112 = .ok (.putfield 81, 3) := by decide +kernel
theorem d_Ref_feed_115 : decode c_Ref_feed 115 = .ok (.iinc 6 1, 3) := by decide +kernel
theorem d_Ref_feed_118 : decode c_Ref_feed 118 = .ok (.goto (-91), 3) := by decide +kernel
theorem d_Ref_feed_121 : decode c_Ref_feed 121 = .ok (.aload_n 0, 1) := by decide +kernel
theorem d_Ref_feed_122 : decode c_Ref_feed 122 = .ok (.getfield 81, 3) := by decide +kernel
theorem d_Ref_feed_125 : decode c_Ref_feed 125 = .ok (.ireturn, 1) := by decide +kernel
theorem d_Ref_end_0 : decode c_Ref_end 0 = .ok (.aload_n 0, 1) := by decide +kernel
theorem d_Ref_end_1 : decode c_Ref_end 1 = .ok (.iconst 0, 1) := by decide +kernel
theorem d_Ref_end_2 : decode c_Ref_end 2 = .ok (.putfield 44, 3) := by decide +kernel
theorem d_Ref_end_5 : decode c_Ref_end 5 = .ok (.iload_n 1, 1) := by decide +kernel
theorem d_Ref_end_6 : decode c_Ref_end 6 = .ok (.ifCond .lt 11, 3) := by decide +kernel
theorem d_Ref_end_9 : decode c_Ref_end 9 = .ok (.iload_n 1, 1) := by decide +kernel
theorem d_Ref_end_10 : decode c_Ref_end 10 = .ok (.aload_n 0, 1) := by decide +kernel
theorem d_Ref_end_11 : decode c_Ref_end 11 = .ok (.getfield 81, 3) := by decide +kernel
theorem d_Ref_end_14 : decode c_Ref_end 14 = .ok (.if_icmp .le 9, 3) := by decide +kernel
theorem d_Ref_end_17 : decode c_Ref_end 17 = .ok (.aload_n 0, 1) := by decide +kernel
theorem d_Ref_end_18 : decode c_Ref_end 18 = .ok (.iconst 1, 1) := by decide +kernel
theorem d_Ref_end_19 : decode c_Ref_end 19 = .ok (.invokevirtual 141, 3) := by decide +kernel
theorem d_Ref_end_22 : decode c_Ref_end 22 = .ok (.ireturn, 1) := by decide +kernel
theorem d_Ref_end_23 : decode c_Ref_end 23 = .ok (.aload_n 0, 1) := by decide +kernel
theorem d_Ref_end_24 : decode c_Ref_end 24 = .ok (.iload_n 1, 1) := by decide +kernel
theorem d_Ref_end_25 : decode c_Ref_end 25 = .ok (.putfield 81, 3) := by decide +kernel
theorem d_Ref_end_28 : decode c_Ref_end 28 = .ok (.iload_n 1, 1) := by decide +kernel
theorem d_Ref_end_29 : decode c_Ref_end 29 = .ok (.ireturn, 1) := by decide +kernel
end
section
/-! Decode rows. By program (wip/whole/names.py). -/
theorem d_Law_feed_0 : decode c_Law_feed 0 = .ok (.aload 6, 2) := by decide +kernel
theorem d_Law_feed_2 : decode c_Law_feed 2 = .ok (.iconst 0, 1) := by decide +kernel
theorem d_Law_feed_3 : decode c_Law_feed 3 = .ok (.aload_n 0, 1) := by decide +kernel
theorem d_Law_feed_4 : decode c_Law_feed 4 = .ok (.iload_n 1, 1) := by decide +kernel
theorem d_Law_feed_5 : decode c_Law_feed 5 = .ok (.iload_n 2, 1) := by decide +kernel
theorem d_Law_feed_6 : decode c_Law_feed 6 = .ok (.iload_n 3, 1) := by decide +kernel
theorem d_Law_feed_7 : decode c_Law_feed 7 = .ok (.iload 4, 2) := by decide +kernel
theorem d_Law_feed_9 : decode c_Law_feed 9 = .ok (.iload 5, 2) := by decide +kernel
theorem d_Law_feed_11 : decode c_Law_feed 11 = .ok (.invokevirtual 7, 3) := by decide +kernel
theorem d_Law_feed_14 : decode c_Law_feed 14 = .ok (.i2l, 1) := by decide +kernel
theorem d_Law_feed_15 : decode c_Law_feed 15 = .ok (.lastore, 1) := by decide +kernel
theorem d_Law_feed_16 : decode c_Law_feed 16 = .ok (.goto 7, 3) := by decide +kernel
theorem d_Law_feed_19 : decode c_Law_feed 19 = .ok (.astore 7, 2) := by decide +kernel
theorem d_Law_feed_21 : decode c_Law_feed 21 = .ok (.iconst 1, 1) := by decide +kernel
theorem d_Law_feed_22 : decode c_Law_feed 22 = .ok (.ireturn, 1) := by decide +kernel
theorem d_Law_feed_23 : decode c_Law_feed 23 = .ok (.iconst 0, 1) := by decide +kernel
theorem d_Law_feed_24 : decode c_Law_feed 24 = .ok (.ireturn, 1) := by decide +kernel
theorem d_Law_end_0 : decode c_Law_end 0 = .ok (.aload_n 2, 1) := by decide +kernel
theorem d_Law_end_1 : decode c_Law_end 1 = .ok (.iconst 0, 1) := by decide +kernel
theorem d_Law_end_2 : decode c_Law_end 2 = .ok (.aload_n 0, 1) := by decide +kernel
theorem d_Law_end_3 : decode c_Law_end 3 = .ok (.iload_n 1, 1) := by decide +kernel
theorem d_Law_end_4 : decode c_Law_end 4 = .ok (.invokevirtual 15, 3) := by decide +kernel
theorem d_Law_end_7 : decode c_Law_end 7 = .ok (.i2l, 1) := by decide +kernel
theorem d_Law_end_8 : decode c_Law_end 8 = .ok (.lastore, 1) := by decide +kernel
theorem d_Law_end_9 : decode c_Law_end 9 = .ok (.goto 6, 3) := by decide +kernel
theorem d_Law_end_12 : decode c_Law_end 12 = .ok (.astore_n 3, 1) := by decide +kernel
theorem d_Law_end_13 : decode c_Law_end 13 = .ok (.iconst 1, 1) := by decide +kernel
theorem d_Law_end_14 : decode c_Law_end 14 = .ok (.ireturn, 1) := by decide +kernel
theorem d_Law_end_15 : decode c_Law_end 15 = .ok (.iconst 0, 1) := by decide +kernel
theorem d_Law_end_16 : decode c_Law_end 16 = .ok (.ireturn, 1) := by decide +kernel
theorem d_Law_zone_0 : decode c_Law_zone 0 = .ok (.aload_n 0, 1) := by decide +kernel
theorem d_Law_zone_1 : decode c_Law_zone 1 = .ok (.iload_n 1, 1) := by decide +kernel
theorem d_Law_zone_2 : decode c_Law_zone 2 = .ok (.invokevirtual 21, 3) := by decide +kernel
theorem d_Law_zone_5 : decode c_Law_zone 5 = .ok (.goto 9, 3) := by decide +kernel
theorem d_Law_zone_8 : decode c_Law_zone 8 = .ok (.astore_n 2, 1) := by decide +kernel
theorem d_Law_zone_9 : decode c_Law_zone 9 = .ok (.iconst 1, 1) := by decide +kernel
theorem d_Law_zone_10 : decode c_Law_zone 10 = .ok (.ireturn, 1) := by decide +kernel
theorem d_Law_zone_11 : decode c_Law_zone 11 = .ok (.astore_n 2, 1) := by decide +kernel
theorem d_Law_zone_12 : decode c_Law_zone 12 = .ok (.iconst 2, 1) := by decide +kernel
theorem d_Law_zone_13 : decode c_Law_zone 13 = .ok (.ireturn, 1) := by decide +kernel
theorem d_Law_zone_14 : decode c_Law_zone 14 = .ok (.iconst 0, 1) := by decide +kernel
theorem d_Law_zone_15 : decode c_Law_zone 15 = .ok (.ireturn, 1) := by decide +kernel
theorem d_Law_local_0 : decode c_Law_local 0 = .ok (.aload 4, 2) := by decide +kernel
theorem d_Law_local_2 : decode c_Law_local 2 = .ok (.iconst 0, 1) := by decide +kernel
theorem d_Law_local_3 : decode c_Law_local 3 = .ok (.aload_n 0, 1) := by decide +kernel
theorem d_Law_local_4 : decode c_Law_local 4 = .ok (.iload_n 1, 1) := by decide +kernel
theorem d_Law_local_5 : decode c_Law_local 5 = .ok (.lload_n 2, 1) := by decide +kernel
theorem d_Law_local_6 : decode c_Law_local 6 = .ok (.invokevirtual 27, 3) := by decide +kernel
theorem d_Law_local_9 : decode c_Law_local 9 = .ok (.lastore, 1) := by decide +kernel
theorem d_Law_local_10 : decode c_Law_local 10 = .ok (.goto 7, 3) := by decide +kernel
theorem d_Law_local_13 : decode c_Law_local 13 = .ok (.astore 5, 2) := by decide +kernel
theorem d_Law_local_15 : decode c_Law_local 15 = .ok (.iconst 1, 1) := by decide +kernel
theorem d_Law_local_16 : decode c_Law_local 16 = .ok (.ireturn, 1) := by decide +kernel
theorem d_Law_local_17 : decode c_Law_local 17 = .ok (.iconst 0, 1) := by decide +kernel
theorem d_Law_local_18 : decode c_Law_local 18 = .ok (.ireturn, 1) := by decide +kernel
theorem d_Law_many_0 : decode c_Law_many 0 = .ok (.aload 4, 2) := by decide +kernel
theorem d_Law_many_2 : decode c_Law_many 2 = .ok (.iconst 0, 1) := by decide +kernel
theorem d_Law_many_3 : decode c_Law_many 3 = .ok (.aload_n 0, 1) := by decide +kernel
theorem d_Law_many_4 : decode c_Law_many 4 = .ok (.iload_n 1, 1) := by decide +kernel
theorem d_Law_many_5 : decode c_Law_many 5 = .ok (.lload_n 2, 1) := by decide +kernel
theorem d_Law_many_6 : decode c_Law_many 6 = .ok (.invokevirtual 31, 3) := by decide +kernel
theorem d_Law_many_9 : decode c_Law_many 9 = .ok (.i2l, 1) := by decide +kernel
theorem d_Law_many_10 : decode c_Law_many 10 = .ok (.lastore, 1) := by decide +kernel
theorem d_Law_many_11 : decode c_Law_many 11 = .ok (.goto 7, 3) := by decide +kernel
theorem d_Law_many_14 : decode c_Law_many 14 = .ok (.astore 5, 2) := by decide +kernel
theorem d_Law_many_16 : decode c_Law_many 16 = .ok (.iconst 1, 1) := by decide +kernel
theorem d_Law_many_17 : decode c_Law_many 17 = .ok (.ireturn, 1) := by decide +kernel
theorem d_Law_many_18 : decode c_Law_many 18 = .ok (.iconst 0, 1) := by decide +kernel
theorem d_Law_many_19 : decode c_Law_many 19 = .ok (.ireturn, 1) := by decide +kernel
theorem d_Law_universal_0 : decode c_Law_universal 0 = .ok (.aload 5, 2) := by decide +kernel
theorem d_Law_universal_2 : decode c_Law_universal 2 = .ok (.iconst 0, 1) := by decide +kernel
theorem d_Law_universal_3 : decode c_Law_universal 3 = .ok (.aload_n 0, 1) := by decide +kernel
theorem d_Law_universal_4 : decode c_Law_universal 4 = .ok (.iload_n 1, 1) := by decide +kernel
theorem d_Law_universal_5 : decode c_Law_universal 5 = .ok (.lload_n 2, 1) := by decide +kernel
theorem d_Law_universal_6 : decode c_Law_universal 6 = .ok (.iload 4, 2) := by decide +kernel
theorem d_Law_universal_8 : decode c_Law_universal 8 = .ok (.invokevirtual 35, 3) := by decide +kernel
theorem d_Law_universal_11 : decode c_Law_universal 11 = .ok (.lastore, 1) := by decide +kernel
theorem d_Law_universal_12 : decode c_Law_universal 12 = .ok (.goto 11, 3) := by decide +kernel
theorem d_Law_universal_15 : decode c_Law_universal 15 = .ok (.astore 6, 2) := by decide +kernel
theorem d_Law_universal_17 : decode c_Law_universal 17 = .ok (.iconst 1, 1) := by decide +kernel
theorem d_Law_universal_18 : decode c_Law_universal 18 = .ok (.ireturn, 1) := by decide +kernel
theorem d_Law_universal_19 : decode c_Law_universal 19 = .ok (.astore 6, 2) := by decide +kernel
theorem d_Law_universal_21 : decode c_Law_universal 21 = .ok (.iconst 2, 1) := by decide +kernel
theorem d_Law_universal_22 : decode c_Law_universal 22 = .ok (.ireturn, 1) := by decide +kernel
theorem d_Law_universal_23 : decode c_Law_universal 23 = .ok (.iconst 0, 1) := by decide +kernel
theorem d_Law_universal_24 : decode c_Law_universal 24 = .ok (.ireturn, 1) := by decide +kernel
theorem d_Law_change_0 : decode c_Law_change 0 = .ok (.aload 5, 2) := by decide +kernel
theorem d_Law_change_2 : decode c_Law_change 2 = .ok (.iconst 0, 1) := by decide +kernel
theorem d_Law_change_3 : decode c_Law_change 3 = .ok (.aload_n 0, 1) := by decide +kernel
theorem d_Law_change_4 : decode c_Law_change 4 = .ok (.iload_n 1, 1) := by decide +kernel
theorem d_Law_change_5 : decode c_Law_change 5 = .ok (.lload_n 2, 1) := by decide +kernel
theorem d_Law_change_6 : decode c_Law_change 6 = .ok (.iload 4, 2) := by decide +kernel
theorem d_Law_change_8 : decode c_Law_change 8 = .ok (.invokevirtual 41, 3) := by decide +kernel
theorem d_Law_change_11 : decode c_Law_change 11 = .ok (.lastore, 1) := by decide +kernel
theorem d_Law_change_12 : decode c_Law_change 12 = .ok (.goto 7, 3) := by decide +kernel
theorem d_Law_change_15 : decode c_Law_change 15 = .ok (.astore 6, 2) := by decide +kernel
theorem d_Law_change_17 : decode c_Law_change 17 = .ok (.iconst 1, 1) := by decide +kernel
theorem d_Law_change_18 : decode c_Law_change 18 = .ok (.ireturn, 1) := by decide +kernel
theorem d_Law_change_19 : decode c_Law_change 19 = .ok (.iconst 0, 1) := by decide +kernel
theorem d_Law_change_20 : decode c_Law_change 20 = .ok (.ireturn, 1) := by decide +kernel
theorem d_Law_field_0 : decode c_Law_field 0 = .ok (.aload 5, 2) := by decide +kernel
theorem d_Law_field_2 : decode c_Law_field 2 = .ok (.iconst 0, 1) := by decide +kernel
theorem d_Law_field_3 : decode c_Law_field 3 = .ok (.aload_n 0, 1) := by decide +kernel
theorem d_Law_field_4 : decode c_Law_field 4 = .ok (.iload_n 1, 1) := by decide +kernel
theorem d_Law_field_5 : decode c_Law_field 5 = .ok (.lload_n 2, 1) := by decide +kernel
theorem d_Law_field_6 : decode c_Law_field 6 = .ok (.iload 4, 2) := by decide +kernel
theorem d_Law_field_8 : decode c_Law_field 8 = .ok (.invokevirtual 44, 3) := by decide +kernel
theorem d_Law_field_11 : decode c_Law_field 11 = .ok (.i2l, 1) := by decide +kernel
theorem d_Law_field_12 : decode c_Law_field 12 = .ok (.lastore, 1) := by decide +kernel
theorem d_Law_field_13 : decode c_Law_field 13 = .ok (.goto 7, 3) := by decide +kernel
theorem d_Law_field_16 : decode c_Law_field 16 = .ok (.astore 6, 2) := by decide +kernel
theorem d_Law_field_18 : decode c_Law_field 18 = .ok (.iconst 1, 1) := by decide +kernel
theorem d_Law_field_19 : decode c_Law_field 19 = .ok (.ireturn, 1) := by decide +kernel
theorem d_Law_field_20 : decode c_Law_field 20 = .ok (.iconst 0, 1) := by decide +kernel
theorem d_Law_field_21 : decode c_Law_field 21 = .ok (.ireturn, 1) := by decide +kernel
theorem d_Law_law_0 : decode c_Law_law 0 = .ok (.new 8, 3) := by decide +kernel
theorem d_Law_law_3 : decode c_Law_law 3 = .ok (.dup, 1) := by decide +kernel
theorem d_Law_law_4 : decode c_Law_law 4 = .ok (.invokespecial 48, 3) := by decide +kernel
theorem d_Law_law_7 : decode c_Law_law 7 = .ok (.astore_n 1, 1) := by decide +kernel
theorem d_Law_law_8 : decode c_Law_law 8 = .ok (.new 49, 3) := by decide +kernel
theorem d_Law_law_11 : decode c_Law_law 11 = .ok (.dup, 1) := by decide +kernel
theorem d_Law_law_12 : decode c_Law_law 12 = .ok (.invokespecial 51, 3) := by decide +kernel
theorem d_Law_law_15 : decode c_Law_law 15 = .ok (.astore_n 2, 1) := by decide +kernel
theorem d_Law_law_16 : decode c_Law_law 16 = .ok (.iconst 1, 1) := by decide +kernel
theorem d_Law_law_17 : decode c_Law_law 17 = .ok (.newarray .long, 2) := by decide +kernel
theorem d_Law_law_19 : decode c_Law_law 19 = .ok (.astore_n 3, 1) := by decide +kernel
theorem d_Law_law_20 : decode c_Law_law 20 = .ok (.iconst 0, 1) := by decide +kernel
theorem d_Law_law_21 : decode c_Law_law 21 = .ok (.istore 4, 2) := by decide +kernel
theorem d_Law_law_23 : decode c_Law_law 23 = .ok (.iload 4, 2) := by decide +kernel
theorem d_Law_law_25 : decode c_Law_law 25 = .ok (.aload_n 0, 1) := by decide +kernel
theorem d_Law_law_26 : decode c_Law_law 26 = .ok (.arraylength, 1) := by decide +kernel
theorem d_Law_law_27 : decode c_Law_law 27 = .ok (.bipush 6, 2) := by decide +kernel
theorem d_Law_law_29 : decode c_Law_law 29 = .ok (.isub, 1) := by decide +kernel
theorem d_Law_law_30 : decode c_Law_law 30 = .ok (.if_icmp .gt 842, 3) := by decide +kernel
theorem d_Law_law_33 : decode c_Law_law 33 = .ok (.aload_n 0, 1) := by decide +kernel
theorem d_Law_law_34 : decode c_Law_law 34 = .ok (.iload 4, 2) := by decide +kernel
theorem d_Law_law_36 : decode c_Law_law 36 = .ok (.iaload, 1) := by decide +kernel
theorem d_Law_law_37 : decode c_Law_law 37 = .ok (.bipush 15, 2) := by decide +kernel
theorem d_Law_law_39 : decode c_Law_law 39 = .ok (.iand, 1) := by decide +kernel
theorem d_Law_law_40 : decode c_Law_law 40 = .ok (.tableswitch 826 0 8 #[52, 156, 212, 248, 347, 447, 574, 701, 813], 52) := by decide +kernel
theorem d_Law_law_92 : decode c_Law_law 92 = .ok (.aload_n 1, 1) := by decide +kernel
theorem d_Law_law_93 : decode c_Law_law 93 = .ok (.aload_n 0, 1) := by decide +kernel
theorem d_Law_law_94 : decode c_Law_law 94 = .ok (.iload 4, 2) := by decide +kernel
theorem d_Law_law_96 : decode c_Law_law 96 = .ok (.iconst 1, 1) := by decide +kernel
theorem d_Law_law_97 : decode c_Law_law 97 = .ok (.iadd, 1) := by decide +kernel
theorem d_Law_law_98 : decode c_Law_law 98 = .ok (.iaload, 1) := by decide +kernel
theorem d_Law_law_99 : decode c_Law_law 99 = .ok (.aload_n 0, 1) := by decide +kernel
theorem d_Law_law_100 : decode c_Law_law 100 = .ok (.iload 4, 2) := by decide +kernel
theorem d_Law_law_102 : decode c_Law_law 102 = .ok (.iconst 2, 1) := by decide +kernel
theorem d_Law_law_103 : decode c_Law_law 103 = .ok (.iadd, 1) := by decide +kernel
theorem d_Law_law_104 : decode c_Law_law 104 = .ok (.iaload, 1) := by decide +kernel
theorem d_Law_law_105 : decode c_Law_law 105 = .ok (.aload_n 0, 1) := by decide +kernel
theorem d_Law_law_106 : decode c_Law_law 106 = .ok (.iload 4, 2) := by decide +kernel
theorem d_Law_law_108 : decode c_Law_law 108 = .ok (.iconst 3, 1) := by decide +kernel
theorem d_Law_law_109 : decode c_Law_law 109 = .ok (.iadd, 1) := by decide +kernel
theorem d_Law_law_110 : decode c_Law_law 110 = .ok (.iaload, 1) := by decide +kernel
theorem d_Law_law_111 : decode c_Law_law 111 = .ok (.aload_n 0, 1) := by decide +kernel
theorem d_Law_law_112 : decode c_Law_law 112 = .ok (.iload 4, 2) := by decide +kernel
theorem d_Law_law_114 : decode c_Law_law 114 = .ok (.iconst 4, 1) := by decide +kernel
theorem d_Law_law_115 : decode c_Law_law 115 = .ok (.iadd, 1) := by decide +kernel
theorem d_Law_law_116 : decode c_Law_law 116 = .ok (.iaload, 1) := by decide +kernel
theorem d_Law_law_117 : decode c_Law_law 117 = .ok (.aload_n 0, 1) := by decide +kernel
theorem d_Law_law_118 : decode c_Law_law 118 = .ok (.iload 4, 2) := by decide +kernel
theorem d_Law_law_120 : decode c_Law_law 120 = .ok (.iconst 5, 1) := by decide +kernel
theorem d_Law_law_121 : decode c_Law_law 121 = .ok (.iadd, 1) := by decide +kernel
theorem d_Law_law_122 : decode c_Law_law 122 = .ok (.iaload, 1) := by decide +kernel
theorem d_Law_law_123 : decode c_Law_law 123 = .ok (.aload_n 3, 1) := by decide +kernel
theorem d_Law_law_124 : decode c_Law_law 124 = .ok (.invokestatic 52, 3) := by decide +kernel
theorem d_Law_law_127 : decode c_Law_law 127 = .ok (.istore 5, 2) := by decide +kernel
theorem d_Law_law_129 : decode c_Law_law 129 = .ok (.aload_n 2, 1) := by decide +kernel
theorem d_Law_law_130 : decode c_Law_law 130 = .ok (.aload_n 0, 1) := by decide +kernel
theorem d_Law_law_131 : decode c_Law_law 131 = .ok (.iload 4, 2) := by decide +kernel
theorem d_Law_law_133 : decode c_Law_law 133 = .ok (.iconst 1, 1) := by decide +kernel
theorem d_Law_law_134 : decode c_Law_law 134 = .ok (.iadd, 1) := by decide +kernel
theorem d_Law_law_135 : decode c_Law_law 135 = .ok (.iaload, 1) := by decide +kernel
theorem d_Law_law_136 : decode c_Law_law 136 = .ok (.aload_n 0, 1) := by decide +kernel
theorem d_Law_law_137 : decode c_Law_law 137 = .ok (.iload 4, 2) := by decide +kernel
theorem d_Law_law_139 : decode c_Law_law 139 = .ok (.iconst 2, 1) := by decide +kernel
theorem d_Law_law_140 : decode c_Law_law 140 = .ok (.iadd, 1) := by decide +kernel
theorem d_Law_law_141 : decode c_Law_law 141 = .ok (.iaload, 1) := by decide +kernel
theorem d_Law_law_142 : decode c_Law_law 142 = .ok (.aload_n 0, 1) := by decide +kernel
theorem d_Law_law_143 : decode c_Law_law 143 = .ok (.iload 4, 2) := by decide +kernel
theorem d_Law_law_145 : decode c_Law_law 145 = .ok (.iconst 3, 1) := by decide +kernel
theorem d_Law_law_146 : decode c_Law_law 146 = .ok (.iadd, 1) := by decide +kernel
theorem d_Law_law_147 : decode c_Law_law 147 = .ok (.iaload, 1) := by decide +kernel
theorem d_Law_law_148 : decode c_Law_law 148 = .ok (.aload_n 0, 1) := by decide +kernel
theorem d_Law_law_149 : decode c_Law_law 149 = .ok (.iload 4, 2) := by decide +kernel
theorem d_Law_law_151 : decode c_Law_law 151 = .ok (.iconst 4, 1) := by decide +kernel
theorem d_Law_law_152 : decode c_Law_law 152 = .ok (.iadd, 1) := by decide +kernel
theorem d_Law_law_153 : decode c_Law_law 153 = .ok (.iaload, 1) := by decide +kernel
theorem d_Law_law_154 : decode c_Law_law 154 = .ok (.aload_n 0, 1) := by decide +kernel
theorem d_Law_law_155 : decode c_Law_law 155 = .ok (.iload 4, 2) := by decide +kernel
theorem d_Law_law_157 : decode c_Law_law 157 = .ok (.iconst 5, 1) := by decide +kernel
theorem d_Law_law_158 : decode c_Law_law 158 = .ok (.iadd, 1) := by decide +kernel
theorem d_Law_law_159 : decode c_Law_law 159 = .ok (.iaload, 1) := by decide +kernel
theorem d_Law_law_160 : decode c_Law_law 160 = .ok (.invokevirtual 57, 3) := by decide +kernel
theorem d_Law_law_163 : decode c_Law_law 163 = .ok (.istore 6, 2) := by decide +kernel
theorem d_Law_law_165 : decode c_Law_law 165 = .ok (.aload_n 2, 1) := by decide +kernel
theorem d_Law_law_166 : decode c_Law_law 166 = .ok (.invokevirtual 58, 3) := by decide +kernel
theorem d_Law_law_169 : decode c_Law_law 169 = .ok (.iload 5, 2) := by decide +kernel
theorem d_Law_law_171 : decode c_Law_law 171 = .ok (.if_icmp .eq 5, 3) := by decide +kernel
theorem d_Law_law_174 : decode c_Law_law 174 = .ok (.iconst 0, 1) := by decide +kernel
theorem d_Law_law_175 : decode c_Law_law 175 = .ok (.ireturn, 1) := by decide +kernel
theorem d_Law_law_176 : decode c_Law_law 176 = .ok (.iload 5, 2) := by decide +kernel
theorem d_Law_law_178 : decode c_Law_law 178 = .ok (.ifCond .ne 15, 3) := by decide +kernel
theorem d_Law_law_181 : decode c_Law_law 181 = .ok (.aload_n 3, 1) := by decide +kernel
theorem d_Law_law_182 : decode c_Law_law 182 = .ok (.iconst 0, 1) := by decide +kernel
theorem d_Law_law_183 : decode c_Law_law 183 = .ok (.laload, 1) := by decide +kernel
theorem d_Law_law_184 : decode c_Law_law 184 = .ok (.iload 6, 2) := by decide +kernel
theorem d_Law_law_186 : decode c_Law_law 186 = .ok (.i2l, 1) := by decide +kernel
theorem d_Law_law_187 : decode c_Law_law 187 = .ok (.lcmp, 1) := by decide +kernel
theorem d_Law_law_188 : decode c_Law_law 188 = .ok (.ifCond .eq 5, 3) := by decide +kernel
theorem d_Law_law_191 : decode c_Law_law 191 = .ok (.iconst 0, 1) := by decide +kernel
theorem d_Law_law_192 : decode c_Law_law 192 = .ok (.ireturn, 1) := by decide +kernel
theorem d_Law_law_193 : decode c_Law_law 193 = .ok (.goto 673, 3) := by decide +kernel
theorem d_Law_law_196 : decode c_Law_law 196 = .ok (.aload_n 1, 1) := by decide +kernel
theorem d_Law_law_197 : decode c_Law_law 197 = .ok (.aload_n 0, 1) := by decide +kernel
theorem d_Law_law_198 : decode c_Law_law 198 = .ok (.iload 4, 2) := by decide +kernel
theorem d_Law_law_200 : decode c_Law_law 200 = .ok (.iconst 1, 1) := by decide +kernel
theorem d_Law_law_201 : decode c_Law_law 201 = .ok (.iadd, 1) := by decide +kernel
theorem d_Law_law_202 : decode c_Law_law 202 = .ok (.iaload, 1) := by decide +kernel
theorem d_Law_law_203 : decode c_Law_law 203 = .ok (.aload_n 3, 1) := by decide +kernel
theorem d_Law_law_204 : decode c_Law_law 204 = .ok (.invokestatic 62, 3) := by decide +kernel
theorem d_Law_law_207 : decode c_Law_law 207 = .ok (.istore 5, 2) := by decide +kernel
theorem d_Law_law_209 : decode c_Law_law 209 = .ok (.aload_n 2, 1) := by decide +kernel
theorem d_Law_law_210 : decode c_Law_law 210 = .ok (.aload_n 0, 1) := by decide +kernel
theorem d_Law_law_211 : decode c_Law_law 211 = .ok (.iload 4, 2) := by decide +kernel
theorem d_Law_law_213 : decode c_Law_law 213 = .ok (.iconst 1, 1) := by decide +kernel
theorem d_Law_law_214 : decode c_Law_law 214 = .ok (.iadd, 1) := by decide +kernel
theorem d_Law_law_215 : decode c_Law_law 215 = .ok (.iaload, 1) := by decide +kernel
theorem d_Law_law_216 : decode c_Law_law 216 = .ok (.invokevirtual 65, 3) := by decide +kernel
theorem d_Law_law_219 : decode c_Law_law 219 = .ok (.istore 6, 2) := by decide +kernel
theorem d_Law_law_221 : decode c_Law_law 221 = .ok (.aload_n 2, 1) := by decide +kernel
theorem d_Law_law_222 : decode c_Law_law 222 = .ok (.invokevirtual 58, 3) := by decide +kernel
theorem d_Law_law_225 : decode c_Law_law 225 = .ok (.iload 5, 2) := by decide +kernel
theorem d_Law_law_227 : decode c_Law_law 227 = .ok (.if_icmp .eq 5, 3) := by decide +kernel
theorem d_Law_law_230 : decode c_Law_law 230 = .ok (.iconst 0, 1) := by decide +kernel
theorem d_Law_law_231 : decode c_Law_law 231 = .ok (.ireturn, 1) := by decide +kernel
theorem d_Law_law_232 : decode c_Law_law 232 = .ok (.iload 5, 2) := by decide +kernel
theorem d_Law_law_234 : decode c_Law_law 234 = .ok (.ifCond .ne 15, 3) := by decide +kernel
theorem d_Law_law_237 : decode c_Law_law 237 = .ok (.aload_n 3, 1) := by decide +kernel
theorem d_Law_law_238 : decode c_Law_law 238 = .ok (.iconst 0, 1) := by decide +kernel
theorem d_Law_law_239 : decode c_Law_law 239 = .ok (.laload, 1) := by decide +kernel
theorem d_Law_law_240 : decode c_Law_law 240 = .ok (.iload 6, 2) := by decide +kernel
theorem d_Law_law_242 : decode c_Law_law 242 = .ok (.i2l, 1) := by decide +kernel
theorem d_Law_law_243 : decode c_Law_law 243 = .ok (.lcmp, 1) := by decide +kernel
theorem d_Law_law_244 : decode c_Law_law 244 = .ok (.ifCond .eq 5, 3) := by decide +kernel
theorem d_Law_law_247 : decode c_Law_law 247 = .ok (.iconst 0, 1) := by decide +kernel
theorem d_Law_law_248 : decode c_Law_law 248 = .ok (.ireturn, 1) := by decide +kernel
theorem d_Law_law_249 : decode c_Law_law 249 = .ok (.goto 617, 3) := by decide +kernel
theorem d_Law_law_252 : decode c_Law_law 252 = .ok (.aload_n 1, 1) := by decide +kernel
theorem d_Law_law_253 : decode c_Law_law 253 = .ok (.aload_n 0, 1) := by decide +kernel
theorem d_Law_law_254 : decode c_Law_law 254 = .ok (.iload 4, 2) := by decide +kernel
theorem d_Law_law_256 : decode c_Law_law 256 = .ok (.iconst 1, 1) := by decide +kernel
theorem d_Law_law_257 : decode c_Law_law 257 = .ok (.iadd, 1) := by decide +kernel
theorem d_Law_law_258 : decode c_Law_law 258 = .ok (.iaload, 1) := by decide +kernel
theorem d_Law_law_259 : decode c_Law_law 259 = .ok (.invokestatic 66, 3) := by decide +kernel
theorem d_Law_law_262 : decode c_Law_law 262 = .ok (.istore 5, 2) := by decide +kernel
theorem d_Law_law_264 : decode c_Law_law 264 = .ok (.aload_n 2, 1) := by decide +kernel
theorem d_Law_law_265 : decode c_Law_law 265 = .ok (.aload_n 0, 1) := by decide +kernel
theorem d_Law_law_266 : decode c_Law_law 266 = .ok (.iload 4, 2) := by decide +kernel
theorem d_Law_law_268 : decode c_Law_law 268 = .ok (.iconst 1, 1) := by decide +kernel
theorem d_Law_law_269 : decode c_Law_law 269 = .ok (.iadd, 1) := by decide +kernel
theorem d_Law_law_270 : decode c_Law_law 270 = .ok (.iaload, 1) := by decide +kernel
theorem d_Law_law_271 : decode c_Law_law 271 = .ok (.invokevirtual 69, 3) := by decide +kernel
theorem d_Law_law_274 : decode c_Law_law 274 = .ok (.aload_n 2, 1) := by decide +kernel
theorem d_Law_law_275 : decode c_Law_law 275 = .ok (.invokevirtual 58, 3) := by decide +kernel
theorem d_Law_law_278 : decode c_Law_law 278 = .ok (.iload 5, 2) := by decide +kernel
theorem d_Law_law_280 : decode c_Law_law 280 = .ok (.if_icmp .eq 5, 3) := by decide +kernel
theorem d_Law_law_283 : decode c_Law_law 283 = .ok (.iconst 0, 1) := by decide +kernel
theorem d_Law_law_284 : decode c_Law_law 284 = .ok (.ireturn, 1) := by decide +kernel
theorem d_Law_law_285 : decode c_Law_law 285 = .ok (.goto 581, 3) := by decide +kernel
theorem d_Law_law_288 : decode c_Law_law 288 = .ok (.aload_n 1, 1) := by decide +kernel
theorem d_Law_law_289 : decode c_Law_law 289 = .ok (.aload_n 0, 1) := by decide +kernel
theorem d_Law_law_290 : decode c_Law_law 290 = .ok (.iload 4, 2) := by decide +kernel
theorem d_Law_law_292 : decode c_Law_law 292 = .ok (.iconst 1, 1) := by decide +kernel
theorem d_Law_law_293 : decode c_Law_law 293 = .ok (.iadd, 1) := by decide +kernel
theorem d_Law_law_294 : decode c_Law_law 294 = .ok (.iaload, 1) := by decide +kernel
theorem d_Law_law_295 : decode c_Law_law 295 = .ok (.aload_n 0, 1) := by decide +kernel
theorem d_Law_law_296 : decode c_Law_law 296 = .ok (.iload 4, 2) := by decide +kernel
theorem d_Law_law_298 : decode c_Law_law 298 = .ok (.iconst 2, 1) := by decide +kernel
theorem d_Law_law_299 : decode c_Law_law 299 = .ok (.iadd, 1) := by decide +kernel
theorem d_Law_law_300 : decode c_Law_law 300 = .ok (.iaload, 1) := by decide +kernel
theorem d_Law_law_301 : decode c_Law_law 301 = .ok (.i2l, 1) := by decide +kernel
theorem d_Law_law_302 : decode c_Law_law 302 = .ok (.bipush 32, 2) := by decide +kernel
theorem d_Law_law_304 : decode c_Law_law 304 = .ok (.lshl, 1) := by decide +kernel
theorem d_Law_law_305 : decode c_Law_law 305 = .ok (.aload_n 0, 1) := by decide +kernel
theorem d_Law_law_306 : decode c_Law_law 306 = .ok (.iload 4, 2) := by decide +kernel
theorem d_Law_law_308 : decode c_Law_law 308 = .ok (.iconst 3, 1) := by decide +kernel
theorem d_Law_law_309 : decode c_Law_law 309 = .ok (.iadd, 1) := by decide +kernel
theorem d_Law_law_310 : decode c_Law_law 310 = .ok (.iaload, 1) := by decide +kernel
theorem d_Law_law_311 : decode c_Law_law 311 = .ok (.i2l, 1) := by decide +kernel
theorem d_Law_law_312 : decode c_Law_law 312 = .ok (.ldc2_w 70, 3) := by decide +kernel
theorem d_Law_law_315 : decode c_Law_law 315 = .ok (.land, 1) := by decide +kernel
theorem d_Law_law_316 : decode c_Law_law 316 = .ok (.lor, 1) := by decide +kernel
theorem d_Law_law_317 : decode c_Law_law 317 = .ok (.aload_n 3, 1) := by decide +kernel
theorem d_Law_law_318 : decode c_Law_law 318 = .ok (.invokestatic 72, 3) := by decide +kernel
theorem d_Law_law_321 : decode c_Law_law 321 = .ok (.istore 5, 2) := by decide +kernel
theorem d_Law_law_323 : decode c_Law_law 323 = .ok (.aload_n 2, 1) := by decide +kernel
theorem d_Law_law_324 : decode c_Law_law 324 = .ok (.aload_n 0, 1) := by decide +kernel
theorem d_Law_law_325 : decode c_Law_law 325 = .ok (.iload 4, 2) := by decide +kernel
theorem d_Law_law_327 : decode c_Law_law 327 = .ok (.iconst 1, 1) := by decide +kernel
theorem d_Law_law_328 : decode c_Law_law 328 = .ok (.iadd, 1) := by decide +kernel
theorem d_Law_law_329 : decode c_Law_law 329 = .ok (.iaload, 1) := by decide +kernel
theorem d_Law_law_330 : decode c_Law_law 330 = .ok (.aload_n 0, 1) := by decide +kernel
theorem d_Law_law_331 : decode c_Law_law 331 = .ok (.iload 4, 2) := by decide +kernel
theorem d_Law_law_333 : decode c_Law_law 333 = .ok (.iconst 2, 1) := by decide +kernel
theorem d_Law_law_334 : decode c_Law_law 334 = .ok (.iadd, 1) := by decide +kernel
theorem d_Law_law_335 : decode c_Law_law 335 = .ok (.iaload, 1) := by decide +kernel
theorem d_Law_law_336 : decode c_Law_law 336 = .ok (.i2l, 1) := by decide +kernel
theorem d_Law_law_337 : decode c_Law_law 337 = .ok (.bipush 32, 2) := by decide +kernel
theorem d_Law_law_339 : decode c_Law_law 339 = .ok (.lshl, 1) := by decide +kernel
theorem d_Law_law_340 : decode c_Law_law 340 = .ok (.aload_n 0, 1) := by decide +kernel
theorem d_Law_law_341 : decode c_Law_law 341 = .ok (.iload 4, 2) := by decide +kernel
theorem d_Law_law_343 : decode c_Law_law 343 = .ok (.iconst 3, 1) := by decide +kernel
theorem d_Law_law_344 : decode c_Law_law 344 = .ok (.iadd, 1) := by decide +kernel
theorem d_Law_law_345 : decode c_Law_law 345 = .ok (.iaload, 1) := by decide +kernel
theorem d_Law_law_346 : decode c_Law_law 346 = .ok (.i2l, 1) := by decide +kernel
theorem d_Law_law_347 : decode c_Law_law 347 = .ok (.ldc2_w 70, 3) := by decide +kernel
theorem d_Law_law_350 : decode c_Law_law 350 = .ok (.land, 1) := by decide +kernel
theorem d_Law_law_351 : decode c_Law_law 351 = .ok (.lor, 1) := by decide +kernel
theorem d_Law_law_352 : decode c_Law_law 352 = .ok (.invokevirtual 75, 3) := by decide +kernel
theorem d_Law_law_355 : decode c_Law_law 355 = .ok (.lstore 6, 2) := by decide +kernel
theorem d_Law_law_357 : decode c_Law_law 357 = .ok (.aload_n 2, 1) := by decide +kernel
theorem d_Law_law_358 : decode c_Law_law 358 = .ok (.invokevirtual 58, 3) := by decide +kernel
theorem d_Law_law_361 : decode c_Law_law 361 = .ok (.iload 5, 2) := by decide +kernel
theorem d_Law_law_363 : decode c_Law_law 363 = .ok (.if_icmp .eq 5, 3) := by decide +kernel
theorem d_Law_law_366 : decode c_Law_law 366 = .ok (.iconst 0, 1) := by decide +kernel
theorem d_Law_law_367 : decode c_Law_law 367 = .ok (.ireturn, 1) := by decide +kernel
theorem d_Law_law_368 : decode c_Law_law 368 = .ok (.iload 5, 2) := by decide +kernel
theorem d_Law_law_370 : decode c_Law_law 370 = .ok (.ifCond .ne 14, 3) := by decide +kernel
theorem d_Law_law_373 : decode c_Law_law 373 = .ok (.aload_n 3, 1) := by decide +kernel
theorem d_Law_law_374 : decode c_Law_law 374 = .ok (.iconst 0, 1) := by decide +kernel
theorem d_Law_law_375 : decode c_Law_law 375 = .ok (.laload, 1) := by decide +kernel
theorem d_Law_law_376 : decode c_Law_law 376 = .ok (.lload 6, 2) := by decide +kernel
theorem d_Law_law_378 : decode c_Law_law 378 = .ok (.lcmp, 1) := by decide +kernel
theorem d_Law_law_379 : decode c_Law_law 379 = .ok (.ifCond .eq 5, 3) := by decide +kernel
theorem d_Law_law_382 : decode c_Law_law 382 = .ok (.iconst 0, 1) := by decide +kernel
theorem d_Law_law_383 : decode c_Law_law 383 = .ok (.ireturn, 1) := by decide +kernel
theorem d_Law_law_384 : decode c_Law_law 384 = .ok (.goto 482, 3) := by decide +kernel
theorem d_Law_law_387 : decode c_Law_law 387 = .ok (.aload_n 1, 1) := by decide +kernel
theorem d_Law_law_388 : decode c_Law_law 388 = .ok (.aload_n 0, 1) := by decide +kernel
theorem d_Law_law_389 : decode c_Law_law 389 = .ok (.iload 4, 2) := by decide +kernel
theorem d_Law_law_391 : decode c_Law_law 391 = .ok (.iconst 1, 1) := by decide +kernel
theorem d_Law_law_392 : decode c_Law_law 392 = .ok (.iadd, 1) := by decide +kernel
theorem d_Law_law_393 : decode c_Law_law 393 = .ok (.iaload, 1) := by decide +kernel
theorem d_Law_law_394 : decode c_Law_law 394 = .ok (.aload_n 0, 1) := by decide +kernel
theorem d_Law_law_395 : decode c_Law_law 395 = .ok (.iload 4, 2) := by decide +kernel
theorem d_Law_law_397 : decode c_Law_law 397 = .ok (.iconst 2, 1) := by decide +kernel
theorem d_Law_law_398 : decode c_Law_law 398 = .ok (.iadd, 1) := by decide +kernel
theorem d_Law_law_399 : decode c_Law_law 399 = .ok (.iaload, 1) := by decide +kernel
theorem d_Law_law_400 : decode c_Law_law 400 = .ok (.i2l, 1) := by decide +kernel
theorem d_Law_law_401 : decode c_Law_law 401 = .ok (.bipush 32, 2) := by decide +kernel
theorem d_Law_law_403 : decode c_Law_law 403 = .ok (.lshl, 1) := by decide +kernel
theorem d_Law_law_404 : decode c_Law_law 404 = .ok (.aload_n 0, 1) := by decide +kernel
theorem d_Law_law_405 : decode c_Law_law 405 = .ok (.iload 4, 2) := by decide +kernel
theorem d_Law_law_407 : decode c_Law_law 407 = .ok (.iconst 3, 1) := by decide +kernel
theorem d_Law_law_408 : decode c_Law_law 408 = .ok (.iadd, 1) := by decide +kernel
theorem d_Law_law_409 : decode c_Law_law 409 = .ok (.iaload, 1) := by decide +kernel
theorem d_Law_law_410 : decode c_Law_law 410 = .ok (.i2l, 1) := by decide +kernel
theorem d_Law_law_411 : decode c_Law_law 411 = .ok (.ldc2_w 70, 3) := by decide +kernel
theorem d_Law_law_414 : decode c_Law_law 414 = .ok (.land, 1) := by decide +kernel
theorem d_Law_law_415 : decode c_Law_law 415 = .ok (.lor, 1) := by decide +kernel
theorem d_Law_law_416 : decode c_Law_law 416 = .ok (.aload_n 3, 1) := by decide +kernel
theorem d_Law_law_417 : decode c_Law_law 417 = .ok (.invokestatic 76, 3) := by decide +kernel
theorem d_Law_law_420 : decode c_Law_law 420 = .ok (.istore 5, 2) := by decide +kernel
theorem d_Law_law_422 : decode c_Law_law 422 = .ok (.aload_n 2, 1) := by decide +kernel
theorem d_Law_law_423 : decode c_Law_law 423 = .ok (.aload_n 0, 1) := by decide +kernel
theorem d_Law_law_424 : decode c_Law_law 424 = .ok (.iload 4, 2) := by decide +kernel
theorem d_Law_law_426 : decode c_Law_law 426 = .ok (.iconst 1, 1) := by decide +kernel
theorem d_Law_law_427 : decode c_Law_law 427 = .ok (.iadd, 1) := by decide +kernel
theorem d_Law_law_428 : decode c_Law_law 428 = .ok (.iaload, 1) := by decide +kernel
theorem d_Law_law_429 : decode c_Law_law 429 = .ok (.aload_n 0, 1) := by decide +kernel
theorem d_Law_law_430 : decode c_Law_law 430 = .ok (.iload 4, 2) := by decide +kernel
theorem d_Law_law_432 : decode c_Law_law 432 = .ok (.iconst 2, 1) := by decide +kernel
theorem d_Law_law_433 : decode c_Law_law 433 = .ok (.iadd, 1) := by decide +kernel
theorem d_Law_law_434 : decode c_Law_law 434 = .ok (.iaload, 1) := by decide +kernel
theorem d_Law_law_435 : decode c_Law_law 435 = .ok (.i2l, 1) := by decide +kernel
theorem d_Law_law_436 : decode c_Law_law 436 = .ok (.bipush 32, 2) := by decide +kernel
theorem d_Law_law_438 : decode c_Law_law 438 = .ok (.lshl, 1) := by decide +kernel
theorem d_Law_law_439 : decode c_Law_law 439 = .ok (.aload_n 0, 1) := by decide +kernel
theorem d_Law_law_440 : decode c_Law_law 440 = .ok (.iload 4, 2) := by decide +kernel
theorem d_Law_law_442 : decode c_Law_law 442 = .ok (.iconst 3, 1) := by decide +kernel
theorem d_Law_law_443 : decode c_Law_law 443 = .ok (.iadd, 1) := by decide +kernel
theorem d_Law_law_444 : decode c_Law_law 444 = .ok (.iaload, 1) := by decide +kernel
theorem d_Law_law_445 : decode c_Law_law 445 = .ok (.i2l, 1) := by decide +kernel
theorem d_Law_law_446 : decode c_Law_law 446 = .ok (.ldc2_w 70, 3) := by decide +kernel
theorem d_Law_law_449 : decode c_Law_law 449 = .ok (.land, 1) := by decide +kernel
theorem d_Law_law_450 : decode c_Law_law 450 = .ok (.lor, 1) := by decide +kernel
theorem d_Law_law_451 : decode c_Law_law 451 = .ok (.invokevirtual 78, 3) := by decide +kernel
theorem d_Law_law_454 : decode c_Law_law 454 = .ok (.istore 6, 2) := by decide +kernel
theorem d_Law_law_456 : decode c_Law_law 456 = .ok (.aload_n 2, 1) := by decide +kernel
theorem d_Law_law_457 : decode c_Law_law 457 = .ok (.invokevirtual 58, 3) := by decide +kernel
theorem d_Law_law_460 : decode c_Law_law 460 = .ok (.iload 5, 2) := by decide +kernel
theorem d_Law_law_462 : decode c_Law_law 462 = .ok (.if_icmp .eq 5, 3) := by decide +kernel
theorem d_Law_law_465 : decode c_Law_law 465 = .ok (.iconst 0, 1) := by decide +kernel
theorem d_Law_law_466 : decode c_Law_law 466 = .ok (.ireturn, 1) := by decide +kernel
theorem d_Law_law_467 : decode c_Law_law 467 = .ok (.iload 5, 2) := by decide +kernel
theorem d_Law_law_469 : decode c_Law_law 469 = .ok (.ifCond .ne 15, 3) := by decide +kernel
theorem d_Law_law_472 : decode c_Law_law 472 = .ok (.aload_n 3, 1) := by decide +kernel
theorem d_Law_law_473 : decode c_Law_law 473 = .ok (.iconst 0, 1) := by decide +kernel
theorem d_Law_law_474 : decode c_Law_law 474 = .ok (.laload, 1) := by decide +kernel
theorem d_Law_law_475 : decode c_Law_law 475 = .ok (.iload 6, 2) := by decide +kernel
theorem d_Law_law_477 : decode c_Law_law 477 = .ok (.i2l, 1) := by decide +kernel
theorem d_Law_law_478 : decode c_Law_law 478 = .ok (.lcmp, 1) := by decide +kernel
theorem d_Law_law_479 : decode c_Law_law 479 = .ok (.ifCond .eq 5, 3) := by decide +kernel
theorem d_Law_law_482 : decode c_Law_law 482 = .ok (.iconst 0, 1) := by decide +kernel
theorem d_Law_law_483 : decode c_Law_law 483 = .ok (.ireturn, 1) := by decide +kernel
theorem d_Law_law_484 : decode c_Law_law 484 = .ok (.goto 382, 3) := by decide +kernel
theorem d_Law_law_487 : decode c_Law_law 487 = .ok (.aload_n 1, 1) := by decide +kernel
theorem d_Law_law_488 : decode c_Law_law 488 = .ok (.aload_n 0, 1) := by decide +kernel
theorem d_Law_law_489 : decode c_Law_law 489 = .ok (.iload 4, 2) := by decide +kernel
theorem d_Law_law_491 : decode c_Law_law 491 = .ok (.iconst 1, 1) := by decide +kernel
theorem d_Law_law_492 : decode c_Law_law 492 = .ok (.iadd, 1) := by decide +kernel
theorem d_Law_law_493 : decode c_Law_law 493 = .ok (.iaload, 1) := by decide +kernel
theorem d_Law_law_494 : decode c_Law_law 494 = .ok (.aload_n 0, 1) := by decide +kernel
theorem d_Law_law_495 : decode c_Law_law 495 = .ok (.iload 4, 2) := by decide +kernel
theorem d_Law_law_497 : decode c_Law_law 497 = .ok (.iconst 2, 1) := by decide +kernel
theorem d_Law_law_498 : decode c_Law_law 498 = .ok (.iadd, 1) := by decide +kernel
theorem d_Law_law_499 : decode c_Law_law 499 = .ok (.iaload, 1) := by decide +kernel
theorem d_Law_law_500 : decode c_Law_law 500 = .ok (.i2l, 1) := by decide +kernel
theorem d_Law_law_501 : decode c_Law_law 501 = .ok (.bipush 32, 2) := by decide +kernel
theorem d_Law_law_503 : decode c_Law_law 503 = .ok (.lshl, 1) := by decide +kernel
theorem d_Law_law_504 : decode c_Law_law 504 = .ok (.aload_n 0, 1) := by decide +kernel
theorem d_Law_law_505 : decode c_Law_law 505 = .ok (.iload 4, 2) := by decide +kernel
theorem d_Law_law_507 : decode c_Law_law 507 = .ok (.iconst 3, 1) := by decide +kernel
theorem d_Law_law_508 : decode c_Law_law 508 = .ok (.iadd, 1) := by decide +kernel
theorem d_Law_law_509 : decode c_Law_law 509 = .ok (.iaload, 1) := by decide +kernel
theorem d_Law_law_510 : decode c_Law_law 510 = .ok (.i2l, 1) := by decide +kernel
theorem d_Law_law_511 : decode c_Law_law 511 = .ok (.ldc2_w 70, 3) := by decide +kernel
theorem d_Law_law_514 : decode c_Law_law 514 = .ok (.land, 1) := by decide +kernel
theorem d_Law_law_515 : decode c_Law_law 515 = .ok (.lor, 1) := by decide +kernel
theorem d_Law_law_516 : decode c_Law_law 516 = .ok (.aload_n 0, 1) := by decide +kernel
theorem d_Law_law_517 : decode c_Law_law 517 = .ok (.iload 4, 2) := by decide +kernel
theorem d_Law_law_519 : decode c_Law_law 519 = .ok (.iconst 4, 1) := by decide +kernel
theorem d_Law_law_520 : decode c_Law_law 520 = .ok (.iadd, 1) := by decide +kernel
theorem d_Law_law_521 : decode c_Law_law 521 = .ok (.iaload, 1) := by decide +kernel
theorem d_Law_law_522 : decode c_Law_law 522 = .ok (.ifCond .eq 7, 3) := by decide +kernel
theorem d_Law_law_525 : decode c_Law_law 525 = .ok (.iconst 1, 1) := by decide +kernel
theorem d_Law_law_526 : decode c_Law_law 526 = .ok (.goto 4, 3) := by decide +kernel
theorem d_Law_law_529 : decode c_Law_law 529 = .ok (.iconst 0, 1) := by decide +kernel
theorem d_Law_law_530 : decode c_Law_law 530 = .ok (.aload_n 3, 1) := by decide +kernel
theorem d_Law_law_531 : decode c_Law_law 531 = .ok (.invokestatic 79, 3) := by decide +kernel
theorem d_Law_law_534 : decode c_Law_law 534 = .ok (.istore 5, 2) := by decide +kernel
theorem d_Law_law_536 : decode c_Law_law 536 = .ok (.aload_n 2, 1) := by decide +kernel
theorem d_Law_law_537 : decode c_Law_law 537 = .ok (.aload_n 0, 1) := by decide +kernel
theorem d_Law_law_538 : decode c_Law_law 538 = .ok (.iload 4, 2) := by decide +kernel
theorem d_Law_law_540 : decode c_Law_law 540 = .ok (.iconst 1, 1) := by decide +kernel
theorem d_Law_law_541 : decode c_Law_law 541 = .ok (.iadd, 1) := by decide +kernel
theorem d_Law_law_542 : decode c_Law_law 542 = .ok (.iaload, 1) := by decide +kernel
theorem d_Law_law_543 : decode c_Law_law 543 = .ok (.aload_n 0, 1) := by decide +kernel
theorem d_Law_law_544 : decode c_Law_law 544 = .ok (.iload 4, 2) := by decide +kernel
theorem d_Law_law_546 : decode c_Law_law 546 = .ok (.iconst 2, 1) := by decide +kernel
theorem d_Law_law_547 : decode c_Law_law 547 = .ok (.iadd, 1) := by decide +kernel
theorem d_Law_law_548 : decode c_Law_law 548 = .ok (.iaload, 1) := by decide +kernel
theorem d_Law_law_549 : decode c_Law_law 549 = .ok (.i2l, 1) := by decide +kernel
theorem d_Law_law_550 : decode c_Law_law 550 = .ok (.bipush 32, 2) := by decide +kernel
theorem d_Law_law_552 : decode c_Law_law 552 = .ok (.lshl, 1) := by decide +kernel
theorem d_Law_law_553 : decode c_Law_law 553 = .ok (.aload_n 0, 1) := by decide +kernel
theorem d_Law_law_554 : decode c_Law_law 554 = .ok (.iload 4, 2) := by decide +kernel
theorem d_Law_law_556 : decode c_Law_law 556 = .ok (.iconst 3, 1) := by decide +kernel
theorem d_Law_law_557 : decode c_Law_law 557 = .ok (.iadd, 1) := by decide +kernel
theorem d_Law_law_558 : decode c_Law_law 558 = .ok (.iaload, 1) := by decide +kernel
theorem d_Law_law_559 : decode c_Law_law 559 = .ok (.i2l, 1) := by decide +kernel
theorem d_Law_law_560 : decode c_Law_law 560 = .ok (.ldc2_w 70, 3) := by decide +kernel
theorem d_Law_law_563 : decode c_Law_law 563 = .ok (.land, 1) := by decide +kernel
theorem d_Law_law_564 : decode c_Law_law 564 = .ok (.lor, 1) := by decide +kernel
theorem d_Law_law_565 : decode c_Law_law 565 = .ok (.aload_n 0, 1) := by decide +kernel
theorem d_Law_law_566 : decode c_Law_law 566 = .ok (.iload 4, 2) := by decide +kernel
theorem d_Law_law_568 : decode c_Law_law 568 = .ok (.iconst 4, 1) := by decide +kernel
theorem d_Law_law_569 : decode c_Law_law 569 = .ok (.iadd, 1) := by decide +kernel
theorem d_Law_law_570 : decode c_Law_law 570 = .ok (.iaload, 1) := by decide +kernel
theorem d_Law_law_571 : decode c_Law_law 571 = .ok (.ifCond .eq 7, 3) := by decide +kernel
theorem d_Law_law_574 : decode c_Law_law 574 = .ok (.iconst 1, 1) := by decide +kernel
theorem d_Law_law_575 : decode c_Law_law 575 = .ok (.goto 4, 3) := by decide +kernel
theorem d_Law_law_578 : decode c_Law_law 578 = .ok (.iconst 0, 1) := by decide +kernel
theorem d_Law_law_579 : decode c_Law_law 579 = .ok (.invokevirtual 82, 3) := by decide +kernel
theorem d_Law_law_582 : decode c_Law_law 582 = .ok (.lstore 6, 2) := by decide +kernel
theorem d_Law_law_584 : decode c_Law_law 584 = .ok (.aload_n 2, 1) := by decide +kernel
theorem d_Law_law_585 : decode c_Law_law 585 = .ok (.invokevirtual 58, 3) := by decide +kernel
theorem d_Law_law_588 : decode c_Law_law 588 = .ok (.iload 5, 2) := by decide +kernel
theorem d_Law_law_590 : decode c_Law_law 590 = .ok (.if_icmp .eq 5, 3) := by decide +kernel
theorem d_Law_law_593 : decode c_Law_law 593 = .ok (.iconst 0, 1) := by decide +kernel
theorem d_Law_law_594 : decode c_Law_law 594 = .ok (.ireturn, 1) := by decide +kernel
theorem d_Law_law_595 : decode c_Law_law 595 = .ok (.iload 5, 2) := by decide +kernel
theorem d_Law_law_597 : decode c_Law_law 597 = .ok (.ifCond .ne 14, 3) := by decide +kernel
theorem d_Law_law_600 : decode c_Law_law 600 = .ok (.aload_n 3, 1) := by decide +kernel
theorem d_Law_law_601 : decode c_Law_law 601 = .ok (.iconst 0, 1) := by decide +kernel
theorem d_Law_law_602 : decode c_Law_law 602 = .ok (.laload, 1) := by decide +kernel
theorem d_Law_law_603 : decode c_Law_law 603 = .ok (.lload 6, 2) := by decide +kernel
theorem d_Law_law_605 : decode c_Law_law 605 = .ok (.lcmp, 1) := by decide +kernel
theorem d_Law_law_606 : decode c_Law_law 606 = .ok (.ifCond .eq 5, 3) := by decide +kernel
theorem d_Law_law_609 : decode c_Law_law 609 = .ok (.iconst 0, 1) := by decide +kernel
theorem d_Law_law_610 : decode c_Law_law 610 = .ok (.ireturn, 1) := by decide +kernel
theorem d_Law_law_611 : decode c_Law_law 611 = .ok (.goto 255, 3) := by decide +kernel
theorem d_Law_law_614 : decode c_Law_law 614 = .ok (.aload_n 1, 1) := by decide +kernel
theorem d_Law_law_615 : decode c_Law_law 615 = .ok (.aload_n 0, 1) := by decide +kernel
theorem d_Law_law_616 : decode c_Law_law 616 = .ok (.iload 4, 2) := by decide +kernel
theorem d_Law_law_618 : decode c_Law_law 618 = .ok (.iconst 1, 1) := by decide +kernel
theorem d_Law_law_619 : decode c_Law_law 619 = .ok (.iadd, 1) := by decide +kernel
theorem d_Law_law_620 : decode c_Law_law 620 = .ok (.iaload, 1) := by decide +kernel
theorem d_Law_law_621 : decode c_Law_law 621 = .ok (.aload_n 0, 1) := by decide +kernel
theorem d_Law_law_622 : decode c_Law_law 622 = .ok (.iload 4, 2) := by decide +kernel
theorem d_Law_law_624 : decode c_Law_law 624 = .ok (.iconst 2, 1) := by decide +kernel
theorem d_Law_law_625 : decode c_Law_law 625 = .ok (.iadd, 1) := by decide +kernel
theorem d_Law_law_626 : decode c_Law_law 626 = .ok (.iaload, 1) := by decide +kernel
theorem d_Law_law_627 : decode c_Law_law 627 = .ok (.i2l, 1) := by decide +kernel
theorem d_Law_law_628 : decode c_Law_law 628 = .ok (.bipush 32, 2) := by decide +kernel
theorem d_Law_law_630 : decode c_Law_law 630 = .ok (.lshl, 1) := by decide +kernel
theorem d_Law_law_631 : decode c_Law_law 631 = .ok (.aload_n 0, 1) := by decide +kernel
theorem d_Law_law_632 : decode c_Law_law 632 = .ok (.iload 4, 2) := by decide +kernel
theorem d_Law_law_634 : decode c_Law_law 634 = .ok (.iconst 3, 1) := by decide +kernel
theorem d_Law_law_635 : decode c_Law_law 635 = .ok (.iadd, 1) := by decide +kernel
theorem d_Law_law_636 : decode c_Law_law 636 = .ok (.iaload, 1) := by decide +kernel
theorem d_Law_law_637 : decode c_Law_law 637 = .ok (.i2l, 1) := by decide +kernel
theorem d_Law_law_638 : decode c_Law_law 638 = .ok (.ldc2_w 70, 3) := by decide +kernel
theorem d_Law_law_641 : decode c_Law_law 641 = .ok (.land, 1) := by decide +kernel
theorem d_Law_law_642 : decode c_Law_law 642 = .ok (.lor, 1) := by decide +kernel
theorem d_Law_law_643 : decode c_Law_law 643 = .ok (.aload_n 0, 1) := by decide +kernel
theorem d_Law_law_644 : decode c_Law_law 644 = .ok (.iload 4, 2) := by decide +kernel
theorem d_Law_law_646 : decode c_Law_law 646 = .ok (.iconst 4, 1) := by decide +kernel
theorem d_Law_law_647 : decode c_Law_law 647 = .ok (.iadd, 1) := by decide +kernel
theorem d_Law_law_648 : decode c_Law_law 648 = .ok (.iaload, 1) := by decide +kernel
theorem d_Law_law_649 : decode c_Law_law 649 = .ok (.ifCond .eq 7, 3) := by decide +kernel
theorem d_Law_law_652 : decode c_Law_law 652 = .ok (.iconst 1, 1) := by decide +kernel
theorem d_Law_law_653 : decode c_Law_law 653 = .ok (.goto 4, 3) := by decide +kernel
theorem d_Law_law_656 : decode c_Law_law 656 = .ok (.iconst 0, 1) := by decide +kernel
theorem d_Law_law_657 : decode c_Law_law 657 = .ok (.aload_n 3, 1) := by decide +kernel
theorem d_Law_law_658 : decode c_Law_law 658 = .ok (.invokestatic 83, 3) := by decide +kernel
theorem d_Law_law_661 : decode c_Law_law 661 = .ok (.istore 5, 2) := by decide +kernel
theorem d_Law_law_663 : decode c_Law_law 663 = .ok (.aload_n 2, 1) := by decide +kernel
theorem d_Law_law_664 : decode c_Law_law 664 = .ok (.aload_n 0, 1) := by decide +kernel
theorem d_Law_law_665 : decode c_Law_law 665 = .ok (.iload 4, 2) := by decide +kernel
theorem d_Law_law_667 : decode c_Law_law 667 = .ok (.iconst 1, 1) := by decide +kernel
theorem d_Law_law_668 : decode c_Law_law 668 = .ok (.iadd, 1) := by decide +kernel
theorem d_Law_law_669 : decode c_Law_law 669 = .ok (.iaload, 1) := by decide +kernel
theorem d_Law_law_670 : decode c_Law_law 670 = .ok (.aload_n 0, 1) := by decide +kernel
theorem d_Law_law_671 : decode c_Law_law 671 = .ok (.iload 4, 2) := by decide +kernel
theorem d_Law_law_673 : decode c_Law_law 673 = .ok (.iconst 2, 1) := by decide +kernel
theorem d_Law_law_674 : decode c_Law_law 674 = .ok (.iadd, 1) := by decide +kernel
theorem d_Law_law_675 : decode c_Law_law 675 = .ok (.iaload, 1) := by decide +kernel
theorem d_Law_law_676 : decode c_Law_law 676 = .ok (.i2l, 1) := by decide +kernel
theorem d_Law_law_677 : decode c_Law_law 677 = .ok (.bipush 32, 2) := by decide +kernel
theorem d_Law_law_679 : decode c_Law_law 679 = .ok (.lshl, 1) := by decide +kernel
theorem d_Law_law_680 : decode c_Law_law 680 = .ok (.aload_n 0, 1) := by decide +kernel
theorem d_Law_law_681 : decode c_Law_law 681 = .ok (.iload 4, 2) := by decide +kernel
theorem d_Law_law_683 : decode c_Law_law 683 = .ok (.iconst 3, 1) := by decide +kernel
theorem d_Law_law_684 : decode c_Law_law 684 = .ok (.iadd, 1) := by decide +kernel
theorem d_Law_law_685 : decode c_Law_law 685 = .ok (.iaload, 1) := by decide +kernel
theorem d_Law_law_686 : decode c_Law_law 686 = .ok (.i2l, 1) := by decide +kernel
theorem d_Law_law_687 : decode c_Law_law 687 = .ok (.ldc2_w 70, 3) := by decide +kernel
theorem d_Law_law_690 : decode c_Law_law 690 = .ok (.land, 1) := by decide +kernel
theorem d_Law_law_691 : decode c_Law_law 691 = .ok (.lor, 1) := by decide +kernel
theorem d_Law_law_692 : decode c_Law_law 692 = .ok (.aload_n 0, 1) := by decide +kernel
theorem d_Law_law_693 : decode c_Law_law 693 = .ok (.iload 4, 2) := by decide +kernel
theorem d_Law_law_695 : decode c_Law_law 695 = .ok (.iconst 4, 1) := by decide +kernel
theorem d_Law_law_696 : decode c_Law_law 696 = .ok (.iadd, 1) := by decide +kernel
theorem d_Law_law_697 : decode c_Law_law 697 = .ok (.iaload, 1) := by decide +kernel
theorem d_Law_law_698 : decode c_Law_law 698 = .ok (.ifCond .eq 7, 3) := by decide +kernel
theorem d_Law_law_701 : decode c_Law_law 701 = .ok (.iconst 1, 1) := by decide +kernel
theorem d_Law_law_702 : decode c_Law_law 702 = .ok (.goto 4, 3) := by decide +kernel
theorem d_Law_law_705 : decode c_Law_law 705 = .ok (.iconst 0, 1) := by decide +kernel
theorem d_Law_law_706 : decode c_Law_law 706 = .ok (.invokevirtual 85, 3) := by decide +kernel
theorem d_Law_law_709 : decode c_Law_law 709 = .ok (.lstore 6, 2) := by decide +kernel
theorem d_Law_law_711 : decode c_Law_law 711 = .ok (.aload_n 2, 1) := by decide +kernel
theorem d_Law_law_712 : decode c_Law_law 712 = .ok (.invokevirtual 58, 3) := by decide +kernel
theorem d_Law_law_715 : decode c_Law_law 715 = .ok (.iload 5, 2) := by decide +kernel
theorem d_Law_law_717 : decode c_Law_law 717 = .ok (.if_icmp .eq 5, 3) := by decide +kernel
theorem d_Law_law_720 : decode c_Law_law 720 = .ok (.iconst 0, 1) := by decide +kernel
theorem d_Law_law_721 : decode c_Law_law 721 = .ok (.ireturn, 1) := by decide +kernel
theorem d_Law_law_722 : decode c_Law_law 722 = .ok (.iload 5, 2) := by decide +kernel
theorem d_Law_law_724 : decode c_Law_law 724 = .ok (.ifCond .ne 14, 3) := by decide +kernel
theorem d_Law_law_727 : decode c_Law_law 727 = .ok (.aload_n 3, 1) := by decide +kernel
theorem d_Law_law_728 : decode c_Law_law 728 = .ok (.iconst 0, 1) := by decide +kernel
theorem d_Law_law_729 : decode c_Law_law 729 = .ok (.laload, 1) := by decide +kernel
theorem d_Law_law_730 : decode c_Law_law 730 = .ok (.lload 6, 2) := by decide +kernel
theorem d_Law_law_732 : decode c_Law_law 732 = .ok (.lcmp, 1) := by decide +kernel
theorem d_Law_law_733 : decode c_Law_law 733 = .ok (.ifCond .eq 5, 3) := by decide +kernel
theorem d_Law_law_736 : decode c_Law_law 736 = .ok (.iconst 0, 1) := by decide +kernel
theorem d_Law_law_737 : decode c_Law_law 737 = .ok (.ireturn, 1) := by decide +kernel
theorem d_Law_law_738 : decode c_Law_law 738 = .ok (.goto 128, 3) := by decide +kernel
theorem d_Law_law_741 : decode c_Law_law 741 = .ok (.aload_n 1, 1) := by decide +kernel
theorem d_Law_law_742 : decode c_Law_law 742 = .ok (.aload_n 0, 1) := by decide +kernel
theorem d_Law_law_743 : decode c_Law_law 743 = .ok (.iload 4, 2) := by decide +kernel
theorem d_Law_law_745 : decode c_Law_law 745 = .ok (.iconst 1, 1) := by decide +kernel
theorem d_Law_law_746 : decode c_Law_law 746 = .ok (.iadd, 1) := by decide +kernel
theorem d_Law_law_747 : decode c_Law_law 747 = .ok (.iaload, 1) := by decide +kernel
theorem d_Law_law_748 : decode c_Law_law 748 = .ok (.aload_n 0, 1) := by decide +kernel
theorem d_Law_law_749 : decode c_Law_law 749 = .ok (.iload 4, 2) := by decide +kernel
theorem d_Law_law_751 : decode c_Law_law 751 = .ok (.iconst 2, 1) := by decide +kernel
theorem d_Law_law_752 : decode c_Law_law 752 = .ok (.iadd, 1) := by decide +kernel
theorem d_Law_law_753 : decode c_Law_law 753 = .ok (.iaload, 1) := by decide +kernel
theorem d_Law_law_754 : decode c_Law_law 754 = .ok (.i2l, 1) := by decide +kernel
theorem d_Law_law_755 : decode c_Law_law 755 = .ok (.bipush 32, 2) := by decide +kernel
theorem d_Law_law_757 : decode c_Law_law 757 = .ok (.lshl, 1) := by decide +kernel
theorem d_Law_law_758 : decode c_Law_law 758 = .ok (.aload_n 0, 1) := by decide +kernel
theorem d_Law_law_759 : decode c_Law_law 759 = .ok (.iload 4, 2) := by decide +kernel
theorem d_Law_law_761 : decode c_Law_law 761 = .ok (.iconst 3, 1) := by decide +kernel
theorem d_Law_law_762 : decode c_Law_law 762 = .ok (.iadd, 1) := by decide +kernel
theorem d_Law_law_763 : decode c_Law_law 763 = .ok (.iaload, 1) := by decide +kernel
theorem d_Law_law_764 : decode c_Law_law 764 = .ok (.i2l, 1) := by decide +kernel
theorem d_Law_law_765 : decode c_Law_law 765 = .ok (.ldc2_w 70, 3) := by decide +kernel
theorem d_Law_law_768 : decode c_Law_law 768 = .ok (.land, 1) := by decide +kernel
theorem d_Law_law_769 : decode c_Law_law 769 = .ok (.lor, 1) := by decide +kernel
theorem d_Law_law_770 : decode c_Law_law 770 = .ok (.aload_n 0, 1) := by decide +kernel
theorem d_Law_law_771 : decode c_Law_law 771 = .ok (.iload 4, 2) := by decide +kernel
theorem d_Law_law_773 : decode c_Law_law 773 = .ok (.iconst 4, 1) := by decide +kernel
theorem d_Law_law_774 : decode c_Law_law 774 = .ok (.iadd, 1) := by decide +kernel
theorem d_Law_law_775 : decode c_Law_law 775 = .ok (.iaload, 1) := by decide +kernel
theorem d_Law_law_776 : decode c_Law_law 776 = .ok (.aload_n 3, 1) := by decide +kernel
theorem d_Law_law_777 : decode c_Law_law 777 = .ok (.invokestatic 86, 3) := by decide +kernel
theorem d_Law_law_780 : decode c_Law_law 780 = .ok (.istore 5, 2) := by decide +kernel
theorem d_Law_law_782 : decode c_Law_law 782 = .ok (.aload_n 2, 1) := by decide +kernel
theorem d_Law_law_783 : decode c_Law_law 783 = .ok (.aload_n 0, 1) := by decide +kernel
theorem d_Law_law_784 : decode c_Law_law 784 = .ok (.iload 4, 2) := by decide +kernel
theorem d_Law_law_786 : decode c_Law_law 786 = .ok (.iconst 1, 1) := by decide +kernel
theorem d_Law_law_787 : decode c_Law_law 787 = .ok (.iadd, 1) := by decide +kernel
theorem d_Law_law_788 : decode c_Law_law 788 = .ok (.iaload, 1) := by decide +kernel
theorem d_Law_law_789 : decode c_Law_law 789 = .ok (.aload_n 0, 1) := by decide +kernel
theorem d_Law_law_790 : decode c_Law_law 790 = .ok (.iload 4, 2) := by decide +kernel
theorem d_Law_law_792 : decode c_Law_law 792 = .ok (.iconst 2, 1) := by decide +kernel
theorem d_Law_law_793 : decode c_Law_law 793 = .ok (.iadd, 1) := by decide +kernel
theorem d_Law_law_794 : decode c_Law_law 794 = .ok (.iaload, 1) := by decide +kernel
theorem d_Law_law_795 : decode c_Law_law 795 = .ok (.i2l, 1) := by decide +kernel
theorem d_Law_law_796 : decode c_Law_law 796 = .ok (.bipush 32, 2) := by decide +kernel
theorem d_Law_law_798 : decode c_Law_law 798 = .ok (.lshl, 1) := by decide +kernel
theorem d_Law_law_799 : decode c_Law_law 799 = .ok (.aload_n 0, 1) := by decide +kernel
theorem d_Law_law_800 : decode c_Law_law 800 = .ok (.iload 4, 2) := by decide +kernel
theorem d_Law_law_802 : decode c_Law_law 802 = .ok (.iconst 3, 1) := by decide +kernel
theorem d_Law_law_803 : decode c_Law_law 803 = .ok (.iadd, 1) := by decide +kernel
theorem d_Law_law_804 : decode c_Law_law 804 = .ok (.iaload, 1) := by decide +kernel
theorem d_Law_law_805 : decode c_Law_law 805 = .ok (.i2l, 1) := by decide +kernel
theorem d_Law_law_806 : decode c_Law_law 806 = .ok (.ldc2_w 70, 3) := by decide +kernel
theorem d_Law_law_809 : decode c_Law_law 809 = .ok (.land, 1) := by decide +kernel
theorem d_Law_law_810 : decode c_Law_law 810 = .ok (.lor, 1) := by decide +kernel
theorem d_Law_law_811 : decode c_Law_law 811 = .ok (.aload_n 0, 1) := by decide +kernel
theorem d_Law_law_812 : decode c_Law_law 812 = .ok (.iload 4, 2) := by decide +kernel
theorem d_Law_law_814 : decode c_Law_law 814 = .ok (.iconst 4, 1) := by decide +kernel
theorem d_Law_law_815 : decode c_Law_law 815 = .ok (.iadd, 1) := by decide +kernel
theorem d_Law_law_816 : decode c_Law_law 816 = .ok (.iaload, 1) := by decide +kernel
theorem d_Law_law_817 : decode c_Law_law 817 = .ok (.invokevirtual 89, 3) := by decide +kernel
theorem d_Law_law_820 : decode c_Law_law 820 = .ok (.istore 6, 2) := by decide +kernel
theorem d_Law_law_822 : decode c_Law_law 822 = .ok (.aload_n 2, 1) := by decide +kernel
theorem d_Law_law_823 : decode c_Law_law 823 = .ok (.invokevirtual 58, 3) := by decide +kernel
theorem d_Law_law_826 : decode c_Law_law 826 = .ok (.iload 5, 2) := by decide +kernel
theorem d_Law_law_828 : decode c_Law_law 828 = .ok (.if_icmp .eq 5, 3) := by decide +kernel
theorem d_Law_law_831 : decode c_Law_law 831 = .ok (.iconst 0, 1) := by decide +kernel
theorem d_Law_law_832 : decode c_Law_law 832 = .ok (.ireturn, 1) := by decide +kernel
theorem d_Law_law_833 : decode c_Law_law 833 = .ok (.iload 5, 2) := by decide +kernel
theorem d_Law_law_835 : decode c_Law_law 835 = .ok (.ifCond .ne 15, 3) := by decide +kernel
theorem d_Law_law_838 : decode c_Law_law 838 = .ok (.aload_n 3, 1) := by decide +kernel
theorem d_Law_law_839 : decode c_Law_law 839 = .ok (.iconst 0, 1) := by decide +kernel
theorem d_Law_law_840 : decode c_Law_law 840 = .ok (.laload, 1) := by decide +kernel
theorem d_Law_law_841 : decode c_Law_law 841 = .ok (.iload 6, 2) := by decide +kernel
theorem d_Law_law_843 : decode c_Law_law 843 = .ok (.i2l, 1) := by decide +kernel
theorem d_Law_law_844 : decode c_Law_law 844 = .ok (.lcmp, 1) := by decide +kernel
theorem d_Law_law_845 : decode c_Law_law 845 = .ok (.ifCond .eq 5, 3) := by decide +kernel
theorem d_Law_law_848 : decode c_Law_law 848 = .ok (.iconst 0, 1) := by decide +kernel
theorem d_Law_law_849 : decode c_Law_law 849 = .ok (.ireturn, 1) := by decide +kernel
theorem d_Law_law_850 : decode c_Law_law 850 = .ok (.goto 16, 3) := by decide +kernel
theorem d_Law_law_853 : decode c_Law_law 853 = .ok (.aload_n 1, 1) := by decide +kernel
theorem d_Law_law_854 : decode c_Law_law 854 = .ok (.invokevirtual 90, 3) := by decide +kernel
theorem d_Law_law_857 : decode c_Law_law 857 = .ok (.aload_n 2, 1) := by decide +kernel
theorem d_Law_law_858 : decode c_Law_law 858 = .ok (.invokevirtual 93, 3) := by decide +kernel
theorem d_Law_law_861 : decode c_Law_law 861 = .ok (.if_icmp .eq 5, 3) := by decide +kernel
theorem d_Law_law_864 : decode c_Law_law 864 = .ok (.iconst 0, 1) := by decide +kernel
theorem d_Law_law_865 : decode c_Law_law 865 = .ok (.ireturn, 1) := by decide +kernel
theorem d_Law_law_866 : decode c_Law_law 866 = .ok (.iinc 4 6, 3) := by decide +kernel
theorem d_Law_law_869 : decode c_Law_law 869 = .ok (.goto (-846), 3) := by decide +kernel
theorem d_Law_law_872 : decode c_Law_law 872 = .ok (.iconst 1, 1) := by decide +kernel
theorem d_Law_law_873 : decode c_Law_law 873 = .ok (.ireturn, 1) := by decide +kernel
end
section
/-! Ints and longs by their mathematical values. -/
def iI (x : Int) : Int32 := Int32.ofInt x
def lL (x : Int) : Int64 := Int64.ofInt x
theorem iI_mn : Int32.minValue.toInt = -2147483648 := by decide
theorem iI_mx : Int32.maxValue.toInt = 2147483647 := by decide
theorem lL_mn : Int64.minValue.toInt = -9223372036854775808 := by decide
theorem lL_mx : Int64.maxValue.toInt = 9223372036854775807 := by decide
theorem iI_to {x : Int} (h1 : -2147483648 ≤ x) (h2 : x ≤ 2147483647) : (iI x).toInt = x := Int32.toInt_ofInt_of_le (by omega) (by omega)
theorem lL_to {x : Int} (h1 : -9223372036854775808 ≤ x) (h2 : x ≤ 9223372036854775807) : (lL x).toInt = x := Int64.toInt_ofInt_of_le (by omega) (by omega)
theorem iI_of (x : Int32) : iI x.toInt = x := Int32.ofInt_toInt x
theorem lL_of (x : Int64) : lL x.toInt = x := Int64.ofInt_toInt x
theorem iI_ge (x : Int32) : -2147483648 ≤ x.toInt := by have := x.le_toInt; omega
theorem iI_le2 (x : Int32) : x.toInt ≤ 2147483647 := by have := x.toInt_lt; omega
theorem lL_ge (x : Int64) : -9223372036854775808 ≤ x.toInt := by have := x.le_toInt; omega
theorem lL_le2 (x : Int64) : x.toInt ≤ 9223372036854775807 := by have := x.toInt_lt; omega
theorem iI_add (a b : Int) : iI a + iI b = iI (a + b) := (Int32.ofInt_add a b).symm
theorem iI_sub (a b : Int) : iI a - iI b = iI (a - b) := (Int32.ofInt_sub a b).symm
theorem iI_mul (a b : Int) : iI a * iI b = iI (a * b) := (Int32.ofInt_mul a b).symm
theorem iI_neg (a : Int) : -iI a = iI (-a) := (Int32.ofInt_neg a).symm
theorem lL_add (a b : Int) : lL a + lL b = lL (a + b) := (Int64.ofInt_add a b).symm
theorem lL_sub (a b : Int) : lL a - lL b = lL (a - b) := (Int64.ofInt_sub a b).symm
theorem lL_mul (a b : Int) : lL a * lL b = lL (a * b) := (Int64.ofInt_mul a b).symm
theorem lL_neg (a : Int) : -lL a = lL (-a) := (Int64.ofInt_neg a).symm
theorem iI_tdiv {a b : Int} (h1 : -2147483648 ≤ a) (h2 : a ≤ 2147483647) (h3 : -2147483648 ≤ b) (h4 : b ≤ 2147483647) : iI a / iI b = iI (a.tdiv b) :=
  (Int32.ofInt_tdiv (by rw [iI_mn]; exact h1) (by rw [iI_mx]; exact h2) (by rw [iI_mn]; exact h3) (by rw [iI_mx]; exact h4)).symm
theorem lL_tdiv {a b : Int} (h1 : -9223372036854775808 ≤ a) (h2 : a ≤ 9223372036854775807) (h3 : -9223372036854775808 ≤ b) (h4 : b ≤ 9223372036854775807) : lL a / lL b = lL (a.tdiv b) :=
  (Int64.ofInt_tdiv (by rw [lL_mn]; exact h1) (by rw [lL_mx]; exact h2) (by rw [lL_mn]; exact h3) (by rw [lL_mx]; exact h4)).symm
theorem iI_lt {a b : Int} (h1 : -2147483648 ≤ a) (h2 : a ≤ 2147483647) (h3 : -2147483648 ≤ b) (h4 : b ≤ 2147483647) : iI a < iI b ↔ a < b := by
  rw [Int32.lt_iff_toInt_lt, iI_to h1 h2, iI_to h3 h4]
theorem iI_le {a b : Int} (h1 : -2147483648 ≤ a) (h2 : a ≤ 2147483647) (h3 : -2147483648 ≤ b) (h4 : b ≤ 2147483647) : iI a ≤ iI b ↔ a ≤ b := by
  rw [Int32.le_iff_toInt_le, iI_to h1 h2, iI_to h3 h4]
theorem iI_eq {a b : Int} (h1 : -2147483648 ≤ a) (h2 : a ≤ 2147483647) (h3 : -2147483648 ≤ b) (h4 : b ≤ 2147483647) : iI a = iI b ↔ a = b := by
  rw [← Int32.toInt_inj, iI_to h1 h2, iI_to h3 h4]
theorem lL_lt {a b : Int} (h1 : -9223372036854775808 ≤ a) (h2 : a ≤ 9223372036854775807) (h3 : -9223372036854775808 ≤ b) (h4 : b ≤ 9223372036854775807) : lL a < lL b ↔ a < b := by
  rw [Int64.lt_iff_toInt_lt, lL_to h1 h2, lL_to h3 h4]
theorem lL_le {a b : Int} (h1 : -9223372036854775808 ≤ a) (h2 : a ≤ 9223372036854775807) (h3 : -9223372036854775808 ≤ b) (h4 : b ≤ 9223372036854775807) : lL a ≤ lL b ↔ a ≤ b := by
  rw [Int64.le_iff_toInt_le, lL_to h1 h2, lL_to h3 h4]
theorem lL_eq {a b : Int} (h1 : -9223372036854775808 ≤ a) (h2 : a ≤ 9223372036854775807) (h3 : -9223372036854775808 ≤ b) (h4 : b ≤ 9223372036854775807) : lL a = lL b ↔ a = b := by
  rw [← Int64.toInt_inj, lL_to h1 h2, lL_to h3 h4]
theorem iI_0 : (0 : Int32) = iI 0 := by decide
theorem iI_1 : (1 : Int32) = iI 1 := by decide
theorem iI_m1 : (-1 : Int32) = iI (-1) := by decide
theorem lL_0 : (0 : Int64) = lL 0 := by decide
theorem iI_ne0 {b : Int} (h1 : -2147483648 ≤ b) (h2 : b ≤ 2147483647) (h : b ≠ 0) : ¬ iI b = 0 := by
  rw [iI_0, iI_eq h1 h2 (by decide) (by decide)]; exact h
theorem lL_ne0 {b : Int} (h1 : -9223372036854775808 ≤ b) (h2 : b ≤ 9223372036854775807) (h : b ≠ 0) : ¬ lL b = 0 := by
  rw [lL_0, lL_eq h1 h2 (by decide) (by decide)]; exact h
theorem iI_l {a : Int} (h1 : -2147483648 ≤ a) (h2 : a ≤ 2147483647) : (iI a).toInt64 = lL a :=
  Int64.toInt_inj.1 (by rw [Int32.toInt_toInt64, iI_to h1 h2, lL_to (by omega) (by omega)])
theorem lL_i (a : Int) : (lL a).toInt32 = iI a := Int64.toInt32_ofInt
theorem iI_cl {a : Int} (h1 : 0 ≤ a) (h2 : a ≤ 2147483647) : (iI a).toNatClampNeg = a.toNat := by
  show (iI a).toInt.toNat = a.toNat
  rw [iI_to (by omega) h2]
theorem iI_in {a : Int} {n : Nat} (h1 : 0 ≤ a) (h2 : a < n) (hn : (n : Int) ≤ 2147483647) : vp_in (iI a) n := by
  rw [vp_in_iff, iI_to (by omega) (by omega)]; exact ⟨h1, h2⟩
theorem iI_n (n : Nat) : Int32.ofNat n = iI n := by
  exact Int32.ofInt_eq_ofNat.symm
end
section
/-! Rows on ints and longs that are told by their mathematical values. -/
section RI
variable {p : Program} {l : Launch} {e : Env} {R : Room} {s : State} {m : MethodId} {args : Array Value} {below : List Frame} {meth : Method} {c : Code} {H : Heap} {locs : List Loc} {cells slots : Nat} {Q : State → Prop}
variable {cc : ByteArray} {pc : Nat} {ls : Array Slot} {rest : List Value}
theorem ri_i {x y : Int} (h : x = y) (k : W p l e R s m args below meth c H locs cells slots Q (F0 m pc ls (.int (iI (y)) :: rest))) : W p l e R s m args below meth c H locs cells slots Q (F0 m pc ls (.int (iI (x)) :: rest)) := h ▸ k
theorem ri_l {x y : Int} (h : x = y) (k : W p l e R s m args below meth c H locs cells slots Q (F0 m pc ls (.long (lL (y)) :: rest))) : W p l e R s m args below meth c H locs cells slots Q (F0 m pc ls (.long (lL (x)) :: rest)) := h ▸ k
theorem ri_v {x y : Value} (h : x = y) (k : W p l e R s m args below meth c H locs cells slots Q (F0 m pc ls (y :: rest))) : W p l e R s m args below meth c H locs cells slots Q (F0 m pc ls (x :: rest)) := h ▸ k
theorem ri_iadd (hexec : p.tables.exec = Jvm.exec) (hb : c.code = cc) {a b : Int} (hdg : decode cc pc = .ok (.iadd, 1))
    (k : W p l e R s m args below meth c H locs cells slots Q (F0 m (pc + 1) ls (.int (iI (a + b)) :: rest))) : W p l e R s m args below meth c H locs cells slots Q (F0 m pc ls (.int (iI (b)) :: .int (iI (a)) :: rest)) := lv_iadd hexec hb hdg (by rw [iI_add]; exact k)
theorem ri_isub (hexec : p.tables.exec = Jvm.exec) (hb : c.code = cc) {a b : Int} (hdg : decode cc pc = .ok (.isub, 1))
    (k : W p l e R s m args below meth c H locs cells slots Q (F0 m (pc + 1) ls (.int (iI (a - b)) :: rest))) : W p l e R s m args below meth c H locs cells slots Q (F0 m pc ls (.int (iI (b)) :: .int (iI (a)) :: rest)) := lv_isub hexec hb hdg (by rw [iI_sub]; exact k)
theorem ri_imul (hexec : p.tables.exec = Jvm.exec) (hb : c.code = cc) {a b : Int} (hdg : decode cc pc = .ok (.imul, 1))
    (k : W p l e R s m args below meth c H locs cells slots Q (F0 m (pc + 1) ls (.int (iI (a * b)) :: rest))) : W p l e R s m args below meth c H locs cells slots Q (F0 m pc ls (.int (iI (b)) :: .int (iI (a)) :: rest)) := lv_imul hexec hb hdg (by rw [iI_mul]; exact k)
theorem ri_ladd (hexec : p.tables.exec = Jvm.exec) (hb : c.code = cc) {a b : Int} (hdg : decode cc pc = .ok (.ladd, 1))
    (k : W p l e R s m args below meth c H locs cells slots Q (F0 m (pc + 1) ls (.long (lL (a + b)) :: rest))) : W p l e R s m args below meth c H locs cells slots Q (F0 m pc ls (.long (lL (b)) :: .long (lL (a)) :: rest)) := lv_ladd hexec hb hdg (by rw [lL_add]; exact k)
theorem ri_lsub (hexec : p.tables.exec = Jvm.exec) (hb : c.code = cc) {a b : Int} (hdg : decode cc pc = .ok (.lsub, 1))
    (k : W p l e R s m args below meth c H locs cells slots Q (F0 m (pc + 1) ls (.long (lL (a - b)) :: rest))) : W p l e R s m args below meth c H locs cells slots Q (F0 m pc ls (.long (lL (b)) :: .long (lL (a)) :: rest)) := lv_lsub hexec hb hdg (by rw [lL_sub]; exact k)
theorem ri_lmul (hexec : p.tables.exec = Jvm.exec) (hb : c.code = cc) {a b : Int} (hdg : decode cc pc = .ok (.lmul, 1))
    (k : W p l e R s m args below meth c H locs cells slots Q (F0 m (pc + 1) ls (.long (lL (a * b)) :: rest))) : W p l e R s m args below meth c H locs cells slots Q (F0 m pc ls (.long (lL (b)) :: .long (lL (a)) :: rest)) := lv_lmul hexec hb hdg (by rw [lL_mul]; exact k)
theorem ri_ineg (hexec : p.tables.exec = Jvm.exec) (hb : c.code = cc) {a : Int} (hdg : decode cc pc = .ok (.ineg, 1))
    (k : W p l e R s m args below meth c H locs cells slots Q (F0 m (pc + 1) ls (.int (iI (-a)) :: rest))) : W p l e R s m args below meth c H locs cells slots Q (F0 m pc ls (.int (iI (a)) :: rest)) := lv_ineg hexec hb hdg (by rw [iI_neg]; exact k)
theorem ri_idivT (hexec : p.tables.exec = Jvm.exec) (hb : c.code = cc) {a b : Int} (hdg : decode cc pc = .ok (.idiv, 1))
    (k : W p l e R s m args below meth c H locs cells slots Q (F0 m (pc + 1) ls (.int (iI (a.tdiv b)) :: rest))) (hne : b ≠ 0 := by omega) (h1 : -2147483648 ≤ a := by omega) (h2 : a ≤ 2147483647 := by omega) (h3 : -2147483648 ≤ b := by omega) (h4 : b ≤ 2147483647 := by omega) : W p l e R s m args below meth c H locs cells slots Q (F0 m pc ls (.int (iI (b)) :: .int (iI (a)) :: rest)) := lv_idiv hexec hb hdg (iI_ne0 h3 h4 hne) (by rw [iI_tdiv h1 h2 h3 h4]; exact k)
theorem ri_iremT (hexec : p.tables.exec = Jvm.exec) (hb : c.code = cc) {a b : Int} (hdg : decode cc pc = .ok (.irem, 1))
    (k : W p l e R s m args below meth c H locs cells slots Q (F0 m (pc + 1) ls (.int (iI (a.tmod b)) :: rest))) (hne : b ≠ 0 := by omega) (h1 : -2147483648 ≤ a := by omega) (h2 : a ≤ 2147483647 := by omega) (h3 : -2147483648 ≤ b := by omega) (h4 : b ≤ 2147483647 := by omega) : W p l e R s m args below meth c H locs cells slots Q (F0 m pc ls (.int (iI (b)) :: .int (iI (a)) :: rest)) := lv_irem hexec hb hdg (iI_ne0 h3 h4 hne) (by rw [iI_tdiv h1 h2 h3 h4, iI_mul, iI_sub, show a - a.tdiv b * b = a.tmod b from by rw [Int.tmod_def, Int.mul_comm]]; exact k)
theorem ri_ldivT (hexec : p.tables.exec = Jvm.exec) (hb : c.code = cc) {a b : Int} (hdg : decode cc pc = .ok (.ldiv, 1))
    (k : W p l e R s m args below meth c H locs cells slots Q (F0 m (pc + 1) ls (.long (lL (a.tdiv b)) :: rest))) (hne : b ≠ 0 := by omega) (h1 : -9223372036854775808 ≤ a := by omega) (h2 : a ≤ 9223372036854775807 := by omega) (h3 : -9223372036854775808 ≤ b := by omega) (h4 : b ≤ 9223372036854775807 := by omega) : W p l e R s m args below meth c H locs cells slots Q (F0 m pc ls (.long (lL (b)) :: .long (lL (a)) :: rest)) := lv_ldiv hexec hb hdg (lL_ne0 h3 h4 hne) (by rw [lL_tdiv h1 h2 h3 h4]; exact k)
theorem ri_lremT (hexec : p.tables.exec = Jvm.exec) (hb : c.code = cc) {a b : Int} (hdg : decode cc pc = .ok (.lrem, 1))
    (k : W p l e R s m args below meth c H locs cells slots Q (F0 m (pc + 1) ls (.long (lL (a.tmod b)) :: rest))) (hne : b ≠ 0 := by omega) (h1 : -9223372036854775808 ≤ a := by omega) (h2 : a ≤ 9223372036854775807 := by omega) (h3 : -9223372036854775808 ≤ b := by omega) (h4 : b ≤ 9223372036854775807 := by omega) : W p l e R s m args below meth c H locs cells slots Q (F0 m pc ls (.long (lL (b)) :: .long (lL (a)) :: rest)) := lv_lrem hexec hb hdg (lL_ne0 h3 h4 hne) (by rw [lL_tdiv h1 h2 h3 h4, lL_mul, lL_sub, show a - a.tdiv b * b = a.tmod b from by rw [Int.tmod_def, Int.mul_comm]]; exact k)
theorem ri_idiv (hexec : p.tables.exec = Jvm.exec) (hb : c.code = cc) {a b : Int} (hdg : decode cc pc = .ok (.idiv, 1))
    (k : W p l e R s m args below meth c H locs cells slots Q (F0 m (pc + 1) ls (.int (iI (a / b)) :: rest))) (h1 : 0 ≤ a := by omega) (h2 : a ≤ 2147483647 := by omega) (h3 : 0 < b := by omega) (h4 : b ≤ 2147483647 := by omega) : W p l e R s m args below meth c H locs cells slots Q (F0 m pc ls (.int (iI (b)) :: .int (iI (a)) :: rest)) := ri_idivT hexec hb hdg (by rw [Int.tdiv_eq_ediv_of_nonneg h1]; exact k) (by omega) (by omega) (by omega) (by omega) (by omega)
theorem ri_irem (hexec : p.tables.exec = Jvm.exec) (hb : c.code = cc) {a b : Int} (hdg : decode cc pc = .ok (.irem, 1))
    (k : W p l e R s m args below meth c H locs cells slots Q (F0 m (pc + 1) ls (.int (iI (a % b)) :: rest))) (h1 : 0 ≤ a := by omega) (h2 : a ≤ 2147483647 := by omega) (h3 : 0 < b := by omega) (h4 : b ≤ 2147483647 := by omega) : W p l e R s m args below meth c H locs cells slots Q (F0 m pc ls (.int (iI (b)) :: .int (iI (a)) :: rest)) := ri_iremT hexec hb hdg (by rw [Int.tmod_eq_emod_of_nonneg h1]; exact k) (by omega) (by omega) (by omega) (by omega) (by omega)
theorem ri_ldiv (hexec : p.tables.exec = Jvm.exec) (hb : c.code = cc) {a b : Int} (hdg : decode cc pc = .ok (.ldiv, 1))
    (k : W p l e R s m args below meth c H locs cells slots Q (F0 m (pc + 1) ls (.long (lL (a / b)) :: rest))) (h1 : 0 ≤ a := by omega) (h2 : a ≤ 9223372036854775807 := by omega) (h3 : 0 < b := by omega) (h4 : b ≤ 9223372036854775807 := by omega) : W p l e R s m args below meth c H locs cells slots Q (F0 m pc ls (.long (lL (b)) :: .long (lL (a)) :: rest)) := ri_ldivT hexec hb hdg (by rw [Int.tdiv_eq_ediv_of_nonneg h1]; exact k) (by omega) (by omega) (by omega) (by omega) (by omega)
theorem ri_lrem (hexec : p.tables.exec = Jvm.exec) (hb : c.code = cc) {a b : Int} (hdg : decode cc pc = .ok (.lrem, 1))
    (k : W p l e R s m args below meth c H locs cells slots Q (F0 m (pc + 1) ls (.long (lL (a % b)) :: rest))) (h1 : 0 ≤ a := by omega) (h2 : a ≤ 9223372036854775807 := by omega) (h3 : 0 < b := by omega) (h4 : b ≤ 9223372036854775807 := by omega) : W p l e R s m args below meth c H locs cells slots Q (F0 m pc ls (.long (lL (b)) :: .long (lL (a)) :: rest)) := ri_lremT hexec hb hdg (by rw [Int.tmod_eq_emod_of_nonneg h1]; exact k) (by omega) (by omega) (by omega) (by omega) (by omega)
theorem ri_i2l (hexec : p.tables.exec = Jvm.exec) (hb : c.code = cc) {a : Int} (hdg : decode cc pc = .ok (.i2l, 1))
    (k : W p l e R s m args below meth c H locs cells slots Q (F0 m (pc + 1) ls (.long (lL (a)) :: rest))) (h1 : -2147483648 ≤ a := by omega) (h2 : a ≤ 2147483647 := by omega) : W p l e R s m args below meth c H locs cells slots Q (F0 m pc ls (.int (iI (a)) :: rest)) := lv_i2l hexec hb hdg (iI_l h1 h2) k
theorem ri_l2i (hexec : p.tables.exec = Jvm.exec) (hb : c.code = cc) {a : Int} (hdg : decode cc pc = .ok (.l2i, 1))
    (k : W p l e R s m args below meth c H locs cells slots Q (F0 m (pc + 1) ls (.int (iI (a)) :: rest))) : W p l e R s m args below meth c H locs cells slots Q (F0 m pc ls (.long (lL (a)) :: rest)) := lv_l2i hexec hb hdg (lL_i a) k
theorem ri_icmp_eq (hexec : p.tables.exec = Jvm.exec) (hb : c.code = cc) {a b : Int} {off : Int} {tgt : Nat} (hdg : decode cc pc = .ok (.if_icmp .eq off, 3)) (ht : (pc : Int) + off = (tgt : Int))
    (kt : a = b → W p l e R s m args below meth c H locs cells slots Q (F0 m tgt ls (rest))) (kf : a ≠ b → W p l e R s m args below meth c H locs cells slots Q (F0 m (pc + 3) ls (rest))) (h1 : -2147483648 ≤ a := by omega) (h2 : a ≤ 2147483647 := by omega) (h3 : -2147483648 ≤ b := by omega) (h4 : b ≤ 2147483647 := by omega) : W p l e R s m args below meth c H locs cells slots Q (F0 m pc ls (.int (iI (b)) :: .int (iI (a)) :: rest)) := lv_icmp_eq hexec hb hdg ht (fun h => kt ((iI_eq h1 h2 h3 h4).mp h)) (fun h => kf (fun q => h (by rw [q])))
theorem ri_icmp_ne (hexec : p.tables.exec = Jvm.exec) (hb : c.code = cc) {a b : Int} {off : Int} {tgt : Nat} (hdg : decode cc pc = .ok (.if_icmp .ne off, 3)) (ht : (pc : Int) + off = (tgt : Int))
    (kt : a ≠ b → W p l e R s m args below meth c H locs cells slots Q (F0 m tgt ls (rest))) (kf : a = b → W p l e R s m args below meth c H locs cells slots Q (F0 m (pc + 3) ls (rest))) (h1 : -2147483648 ≤ a := by omega) (h2 : a ≤ 2147483647 := by omega) (h3 : -2147483648 ≤ b := by omega) (h4 : b ≤ 2147483647 := by omega) : W p l e R s m args below meth c H locs cells slots Q (F0 m pc ls (.int (iI (b)) :: .int (iI (a)) :: rest)) := lv_icmp_ne hexec hb hdg ht (fun h => kt (fun q => h (by rw [q]))) (fun h => kf ((iI_eq h1 h2 h3 h4).mp h))
theorem ri_icmp_lt (hexec : p.tables.exec = Jvm.exec) (hb : c.code = cc) {a b : Int} {off : Int} {tgt : Nat} (hdg : decode cc pc = .ok (.if_icmp .lt off, 3)) (ht : (pc : Int) + off = (tgt : Int))
    (kt : a < b → W p l e R s m args below meth c H locs cells slots Q (F0 m tgt ls (rest))) (kf : b ≤ a → W p l e R s m args below meth c H locs cells slots Q (F0 m (pc + 3) ls (rest))) (h1 : -2147483648 ≤ a := by omega) (h2 : a ≤ 2147483647 := by omega) (h3 : -2147483648 ≤ b := by omega) (h4 : b ≤ 2147483647 := by omega) : W p l e R s m args below meth c H locs cells slots Q (F0 m pc ls (.int (iI (b)) :: .int (iI (a)) :: rest)) := lv_icmp_lt hexec hb hdg ht (fun h => kt ((iI_lt h1 h2 h3 h4).mp h)) (fun h => kf (Int.not_lt.mp (fun q => h ((iI_lt h1 h2 h3 h4).mpr q))))
theorem ri_icmp_ge (hexec : p.tables.exec = Jvm.exec) (hb : c.code = cc) {a b : Int} {off : Int} {tgt : Nat} (hdg : decode cc pc = .ok (.if_icmp .ge off, 3)) (ht : (pc : Int) + off = (tgt : Int))
    (kt : b ≤ a → W p l e R s m args below meth c H locs cells slots Q (F0 m tgt ls (rest))) (kf : a < b → W p l e R s m args below meth c H locs cells slots Q (F0 m (pc + 3) ls (rest))) (h1 : -2147483648 ≤ a := by omega) (h2 : a ≤ 2147483647 := by omega) (h3 : -2147483648 ≤ b := by omega) (h4 : b ≤ 2147483647 := by omega) : W p l e R s m args below meth c H locs cells slots Q (F0 m pc ls (.int (iI (b)) :: .int (iI (a)) :: rest)) := lv_icmp_ge hexec hb hdg ht (fun h => kt ((iI_le h3 h4 h1 h2).mp h)) (fun h => kf (Int.not_le.mp (fun q => h ((iI_le h3 h4 h1 h2).mpr q))))
theorem ri_icmp_gt (hexec : p.tables.exec = Jvm.exec) (hb : c.code = cc) {a b : Int} {off : Int} {tgt : Nat} (hdg : decode cc pc = .ok (.if_icmp .gt off, 3)) (ht : (pc : Int) + off = (tgt : Int))
    (kt : b < a → W p l e R s m args below meth c H locs cells slots Q (F0 m tgt ls (rest))) (kf : a ≤ b → W p l e R s m args below meth c H locs cells slots Q (F0 m (pc + 3) ls (rest))) (h1 : -2147483648 ≤ a := by omega) (h2 : a ≤ 2147483647 := by omega) (h3 : -2147483648 ≤ b := by omega) (h4 : b ≤ 2147483647 := by omega) : W p l e R s m args below meth c H locs cells slots Q (F0 m pc ls (.int (iI (b)) :: .int (iI (a)) :: rest)) := lv_icmp_gt hexec hb hdg ht (fun h => kt ((iI_lt h3 h4 h1 h2).mp h)) (fun h => kf (Int.not_lt.mp (fun q => h ((iI_lt h3 h4 h1 h2).mpr q))))
theorem ri_icmp_le (hexec : p.tables.exec = Jvm.exec) (hb : c.code = cc) {a b : Int} {off : Int} {tgt : Nat} (hdg : decode cc pc = .ok (.if_icmp .le off, 3)) (ht : (pc : Int) + off = (tgt : Int))
    (kt : a ≤ b → W p l e R s m args below meth c H locs cells slots Q (F0 m tgt ls (rest))) (kf : b < a → W p l e R s m args below meth c H locs cells slots Q (F0 m (pc + 3) ls (rest))) (h1 : -2147483648 ≤ a := by omega) (h2 : a ≤ 2147483647 := by omega) (h3 : -2147483648 ≤ b := by omega) (h4 : b ≤ 2147483647 := by omega) : W p l e R s m args below meth c H locs cells slots Q (F0 m pc ls (.int (iI (b)) :: .int (iI (a)) :: rest)) := lv_icmp_le hexec hb hdg ht (fun h => kt ((iI_le h1 h2 h3 h4).mp h)) (fun h => kf (Int.not_le.mp (fun q => h ((iI_le h1 h2 h3 h4).mpr q))))
theorem ri_if_eq (hexec : p.tables.exec = Jvm.exec) (hb : c.code = cc) {a : Int} {off : Int} {tgt : Nat} (hdg : decode cc pc = .ok (.ifCond .eq off, 3)) (ht : (pc : Int) + off = (tgt : Int))
    (kt : a = 0 → W p l e R s m args below meth c H locs cells slots Q (F0 m tgt ls (rest))) (kf : a ≠ 0 → W p l e R s m args below meth c H locs cells slots Q (F0 m (pc + 3) ls (rest))) (h1 : -2147483648 ≤ a := by omega) (h2 : a ≤ 2147483647 := by omega) : W p l e R s m args below meth c H locs cells slots Q (F0 m pc ls (.int (iI (a)) :: rest)) := lv_if_eq hexec hb hdg ht (fun h => kt ((iI_eq h1 h2 (by decide) (by decide)).mp (h.trans iI_0))) (fun h => kf (fun q => h (by rw [q]; rfl)))
theorem ri_if_ne (hexec : p.tables.exec = Jvm.exec) (hb : c.code = cc) {a : Int} {off : Int} {tgt : Nat} (hdg : decode cc pc = .ok (.ifCond .ne off, 3)) (ht : (pc : Int) + off = (tgt : Int))
    (kt : a ≠ 0 → W p l e R s m args below meth c H locs cells slots Q (F0 m tgt ls (rest))) (kf : a = 0 → W p l e R s m args below meth c H locs cells slots Q (F0 m (pc + 3) ls (rest))) (h1 : -2147483648 ≤ a := by omega) (h2 : a ≤ 2147483647 := by omega) : W p l e R s m args below meth c H locs cells slots Q (F0 m pc ls (.int (iI (a)) :: rest)) := lv_if_ne hexec hb hdg ht (fun h => kt (fun q => h (by rw [q]; rfl))) (fun h => kf ((iI_eq h1 h2 (by decide) (by decide)).mp (h.trans iI_0)))
theorem ri_if_lt (hexec : p.tables.exec = Jvm.exec) (hb : c.code = cc) {a : Int} {off : Int} {tgt : Nat} (hdg : decode cc pc = .ok (.ifCond .lt off, 3)) (ht : (pc : Int) + off = (tgt : Int))
    (kt : a < 0 → W p l e R s m args below meth c H locs cells slots Q (F0 m tgt ls (rest))) (kf : 0 ≤ a → W p l e R s m args below meth c H locs cells slots Q (F0 m (pc + 3) ls (rest))) (h1 : -2147483648 ≤ a := by omega) (h2 : a ≤ 2147483647 := by omega) : W p l e R s m args below meth c H locs cells slots Q (F0 m pc ls (.int (iI (a)) :: rest)) := lv_if_lt hexec hb hdg ht (fun h => kt ((iI_lt h1 h2 (by decide) (by decide)).mp (iI_0 ▸ h))) (fun h => kf (Int.not_lt.mp (fun q => h (iI_0.symm ▸ (iI_lt h1 h2 (by decide) (by decide)).mpr q))))
theorem ri_if_ge (hexec : p.tables.exec = Jvm.exec) (hb : c.code = cc) {a : Int} {off : Int} {tgt : Nat} (hdg : decode cc pc = .ok (.ifCond .ge off, 3)) (ht : (pc : Int) + off = (tgt : Int))
    (kt : 0 ≤ a → W p l e R s m args below meth c H locs cells slots Q (F0 m tgt ls (rest))) (kf : a < 0 → W p l e R s m args below meth c H locs cells slots Q (F0 m (pc + 3) ls (rest))) (h1 : -2147483648 ≤ a := by omega) (h2 : a ≤ 2147483647 := by omega) : W p l e R s m args below meth c H locs cells slots Q (F0 m pc ls (.int (iI (a)) :: rest)) := lv_if_ge hexec hb hdg ht (fun h => kt ((iI_le (by decide) (by decide) h1 h2).mp (iI_0 ▸ h))) (fun h => kf (Int.not_le.mp (fun q => h (iI_0.symm ▸ (iI_le (by decide) (by decide) h1 h2).mpr q))))
theorem ri_if_gt (hexec : p.tables.exec = Jvm.exec) (hb : c.code = cc) {a : Int} {off : Int} {tgt : Nat} (hdg : decode cc pc = .ok (.ifCond .gt off, 3)) (ht : (pc : Int) + off = (tgt : Int))
    (kt : 0 < a → W p l e R s m args below meth c H locs cells slots Q (F0 m tgt ls (rest))) (kf : a ≤ 0 → W p l e R s m args below meth c H locs cells slots Q (F0 m (pc + 3) ls (rest))) (h1 : -2147483648 ≤ a := by omega) (h2 : a ≤ 2147483647 := by omega) : W p l e R s m args below meth c H locs cells slots Q (F0 m pc ls (.int (iI (a)) :: rest)) := lv_if_gt hexec hb hdg ht (fun h => kt ((iI_lt (by decide) (by decide) h1 h2).mp (iI_0 ▸ h))) (fun h => kf (Int.not_lt.mp (fun q => h (iI_0.symm ▸ (iI_lt (by decide) (by decide) h1 h2).mpr q))))
theorem ri_if_le (hexec : p.tables.exec = Jvm.exec) (hb : c.code = cc) {a : Int} {off : Int} {tgt : Nat} (hdg : decode cc pc = .ok (.ifCond .le off, 3)) (ht : (pc : Int) + off = (tgt : Int))
    (kt : a ≤ 0 → W p l e R s m args below meth c H locs cells slots Q (F0 m tgt ls (rest))) (kf : 0 < a → W p l e R s m args below meth c H locs cells slots Q (F0 m (pc + 3) ls (rest))) (h1 : -2147483648 ≤ a := by omega) (h2 : a ≤ 2147483647 := by omega) : W p l e R s m args below meth c H locs cells slots Q (F0 m pc ls (.int (iI (a)) :: rest)) := lv_if_le hexec hb hdg ht (fun h => kt ((iI_le h1 h2 (by decide) (by decide)).mp (iI_0 ▸ h))) (fun h => kf (Int.not_le.mp (fun q => h (iI_0.symm ▸ (iI_le h1 h2 (by decide) (by decide)).mpr q))))
theorem ri_lcmp_eq (hexec : p.tables.exec = Jvm.exec) (hb : c.code = cc) {a b : Int} {off : Int} {tgt : Nat} (hdg : decode cc pc = .ok (.lcmp, 1)) (hdg2 : decode cc (pc + 1) = .ok (.ifCond .eq off, 3)) (ht : ((pc + 1 : Nat) : Int) + off = (tgt : Int))
    (kt : a = b → W p l e R s m args below meth c H locs cells slots Q (F0 m tgt ls (rest))) (kf : a ≠ b → W p l e R s m args below meth c H locs cells slots Q (F0 m (pc + 4) ls (rest))) (h1 : -9223372036854775808 ≤ a := by omega) (h2 : a ≤ 9223372036854775807 := by omega) (h3 : -9223372036854775808 ≤ b := by omega) (h4 : b ≤ 9223372036854775807 := by omega) : W p l e R s m args below meth c H locs cells slots Q (F0 m pc ls (.long (lL (b)) :: .long (lL (a)) :: rest)) := W.lcmp hexec hb hdg (lv_if_eq hexec hb hdg2 ht (fun h => kt ((lL_eq h1 h2 h3 h4).mp ((lg_cmp_eq _ _).mp h))) (fun h => kf (fun q => h ((lg_cmp_eq _ _).mpr (by rw [q])))))
theorem ri_lcmp_ne (hexec : p.tables.exec = Jvm.exec) (hb : c.code = cc) {a b : Int} {off : Int} {tgt : Nat} (hdg : decode cc pc = .ok (.lcmp, 1)) (hdg2 : decode cc (pc + 1) = .ok (.ifCond .ne off, 3)) (ht : ((pc + 1 : Nat) : Int) + off = (tgt : Int))
    (kt : a ≠ b → W p l e R s m args below meth c H locs cells slots Q (F0 m tgt ls (rest))) (kf : a = b → W p l e R s m args below meth c H locs cells slots Q (F0 m (pc + 4) ls (rest))) (h1 : -9223372036854775808 ≤ a := by omega) (h2 : a ≤ 9223372036854775807 := by omega) (h3 : -9223372036854775808 ≤ b := by omega) (h4 : b ≤ 9223372036854775807 := by omega) : W p l e R s m args below meth c H locs cells slots Q (F0 m pc ls (.long (lL (b)) :: .long (lL (a)) :: rest)) := W.lcmp hexec hb hdg (lv_if_ne hexec hb hdg2 ht (fun h => kt (fun q => h ((lg_cmp_eq _ _).mpr (by rw [q])))) (fun h => kf ((lL_eq h1 h2 h3 h4).mp ((lg_cmp_eq _ _).mp h))))
theorem ri_lcmp_lt (hexec : p.tables.exec = Jvm.exec) (hb : c.code = cc) {a b : Int} {off : Int} {tgt : Nat} (hdg : decode cc pc = .ok (.lcmp, 1)) (hdg2 : decode cc (pc + 1) = .ok (.ifCond .lt off, 3)) (ht : ((pc + 1 : Nat) : Int) + off = (tgt : Int))
    (kt : a < b → W p l e R s m args below meth c H locs cells slots Q (F0 m tgt ls (rest))) (kf : b ≤ a → W p l e R s m args below meth c H locs cells slots Q (F0 m (pc + 4) ls (rest))) (h1 : -9223372036854775808 ≤ a := by omega) (h2 : a ≤ 9223372036854775807 := by omega) (h3 : -9223372036854775808 ≤ b := by omega) (h4 : b ≤ 9223372036854775807 := by omega) : W p l e R s m args below meth c H locs cells slots Q (F0 m pc ls (.long (lL (b)) :: .long (lL (a)) :: rest)) := W.lcmp hexec hb hdg (lv_if_lt hexec hb hdg2 ht (fun h => kt ((lL_lt h1 h2 h3 h4).mp ((lg_cmp_lt _ _).mp h))) (fun h => kf (Int.not_lt.mp (fun q => h ((lg_cmp_lt _ _).mpr ((lL_lt h1 h2 h3 h4).mpr q))))))
theorem ri_lcmp_ge (hexec : p.tables.exec = Jvm.exec) (hb : c.code = cc) {a b : Int} {off : Int} {tgt : Nat} (hdg : decode cc pc = .ok (.lcmp, 1)) (hdg2 : decode cc (pc + 1) = .ok (.ifCond .ge off, 3)) (ht : ((pc + 1 : Nat) : Int) + off = (tgt : Int))
    (kt : b ≤ a → W p l e R s m args below meth c H locs cells slots Q (F0 m tgt ls (rest))) (kf : a < b → W p l e R s m args below meth c H locs cells slots Q (F0 m (pc + 4) ls (rest))) (h1 : -9223372036854775808 ≤ a := by omega) (h2 : a ≤ 9223372036854775807 := by omega) (h3 : -9223372036854775808 ≤ b := by omega) (h4 : b ≤ 9223372036854775807 := by omega) : W p l e R s m args below meth c H locs cells slots Q (F0 m pc ls (.long (lL (b)) :: .long (lL (a)) :: rest)) := W.lcmp hexec hb hdg (lv_if_ge hexec hb hdg2 ht (fun h => kt ((lL_le h3 h4 h1 h2).mp ((lg_cmp_ge _ _).mp h))) (fun h => kf (Int.not_le.mp (fun q => h ((lg_cmp_ge _ _).mpr ((lL_le h3 h4 h1 h2).mpr q))))))
theorem ri_lcmp_gt (hexec : p.tables.exec = Jvm.exec) (hb : c.code = cc) {a b : Int} {off : Int} {tgt : Nat} (hdg : decode cc pc = .ok (.lcmp, 1)) (hdg2 : decode cc (pc + 1) = .ok (.ifCond .gt off, 3)) (ht : ((pc + 1 : Nat) : Int) + off = (tgt : Int))
    (kt : b < a → W p l e R s m args below meth c H locs cells slots Q (F0 m tgt ls (rest))) (kf : a ≤ b → W p l e R s m args below meth c H locs cells slots Q (F0 m (pc + 4) ls (rest))) (h1 : -9223372036854775808 ≤ a := by omega) (h2 : a ≤ 9223372036854775807 := by omega) (h3 : -9223372036854775808 ≤ b := by omega) (h4 : b ≤ 9223372036854775807 := by omega) : W p l e R s m args below meth c H locs cells slots Q (F0 m pc ls (.long (lL (b)) :: .long (lL (a)) :: rest)) := W.lcmp hexec hb hdg (lv_if_gt hexec hb hdg2 ht (fun h => kt ((lL_lt h3 h4 h1 h2).mp ((lg_cmp_gt _ _).mp h))) (fun h => kf (Int.not_lt.mp (fun q => h ((lg_cmp_gt _ _).mpr ((lL_lt h3 h4 h1 h2).mpr q))))))
theorem ri_lcmp_le (hexec : p.tables.exec = Jvm.exec) (hb : c.code = cc) {a b : Int} {off : Int} {tgt : Nat} (hdg : decode cc pc = .ok (.lcmp, 1)) (hdg2 : decode cc (pc + 1) = .ok (.ifCond .le off, 3)) (ht : ((pc + 1 : Nat) : Int) + off = (tgt : Int))
    (kt : a ≤ b → W p l e R s m args below meth c H locs cells slots Q (F0 m tgt ls (rest))) (kf : b < a → W p l e R s m args below meth c H locs cells slots Q (F0 m (pc + 4) ls (rest))) (h1 : -9223372036854775808 ≤ a := by omega) (h2 : a ≤ 9223372036854775807 := by omega) (h3 : -9223372036854775808 ≤ b := by omega) (h4 : b ≤ 9223372036854775807 := by omega) : W p l e R s m args below meth c H locs cells slots Q (F0 m pc ls (.long (lL (b)) :: .long (lL (a)) :: rest)) := W.lcmp hexec hb hdg (lv_if_le hexec hb hdg2 ht (fun h => kt ((lL_le h1 h2 h3 h4).mp ((lg_cmp_le _ _).mp h))) (fun h => kf (Int.not_le.mp (fun q => h ((lg_cmp_le _ _).mpr ((lL_le h1 h2 h3 h4).mpr q))))))
theorem sg_i {a b : Int} (h1 : -2147483648 ≤ a) (h2 : a ≤ 2147483647) (h3 : 0 < b) (h4 : b ≤ 2147483647) : (iI a ^^^ iI b).toInt < 0 ↔ a < 0 := by
  have e : (iI a ^^^ iI b).toBitVec.msb = decide ((iI a ^^^ iI b).toInt < 0) := BitVec.msb_eq_toInt
  have ea : (iI a).toBitVec.msb = decide ((iI a).toInt < 0) := BitVec.msb_eq_toInt
  have eb : (iI b).toBitVec.msb = decide ((iI b).toInt < 0) := BitVec.msb_eq_toInt
  rw [iI_to h1 h2] at ea
  rw [iI_to (by omega) h4, decide_eq_false (by omega)] at eb
  rw [Int32.toBitVec_xor, BitVec.msb_xor, ea, eb, Bool.xor_false] at e
  exact ⟨fun h => by rw [decide_eq_true h] at e; exact of_decide_eq_true e, fun h => by rw [decide_eq_true h] at e; exact of_decide_eq_true e.symm⟩
theorem sg_l {a b : Int} (h1 : -9223372036854775808 ≤ a) (h2 : a ≤ 9223372036854775807) (h3 : 0 < b) (h4 : b ≤ 9223372036854775807) : (lL a ^^^ lL b).toInt < 0 ↔ a < 0 := by
  have e : (lL a ^^^ lL b).toBitVec.msb = decide ((lL a ^^^ lL b).toInt < 0) := BitVec.msb_eq_toInt
  have ea : (lL a).toBitVec.msb = decide ((lL a).toInt < 0) := BitVec.msb_eq_toInt
  have eb : (lL b).toBitVec.msb = decide ((lL b).toInt < 0) := BitVec.msb_eq_toInt
  rw [lL_to h1 h2] at ea
  rw [lL_to (by omega) h4, decide_eq_false (by omega)] at eb
  rw [Int64.toBitVec_xor, BitVec.msb_xor, ea, eb, Bool.xor_false] at e
  exact ⟨fun h => by rw [decide_eq_true h] at e; exact of_decide_eq_true e, fun h => by rw [decide_eq_true h] at e; exact of_decide_eq_true e.symm⟩
theorem ri_ixor_ge (hexec : p.tables.exec = Jvm.exec) (hb : c.code = cc) {a b : Int} {off : Int} {tgt : Nat} (hdg : decode cc pc = .ok (.ixor, 1)) (hdg2 : decode cc (pc + 1) = .ok (.ifCond .ge off, 3)) (ht : ((pc + 1 : Nat) : Int) + off = (tgt : Int))
    (kt : 0 ≤ a → W p l e R s m args below meth c H locs cells slots Q (F0 m tgt ls (rest))) (kf : a < 0 → W p l e R s m args below meth c H locs cells slots Q (F0 m (pc + 4) ls (rest))) (h1 : -2147483648 ≤ a := by omega) (h2 : a ≤ 2147483647 := by omega) (h3 : 0 < b := by omega) (h4 : b ≤ 2147483647 := by omega) : W p l e R s m args below meth c H locs cells slots Q (F0 m pc ls (.int (iI (b)) :: .int (iI (a)) :: rest)) := lv_ixor hexec hb hdg (lv_if_ge hexec hb hdg2 ht (fun h => kt (Int.not_lt.mp (fun q => absurd ((sg_i h1 h2 h3 h4).mpr q) (Int.not_lt.mpr (Int32.le_iff_toInt_le.mp h))))) (fun h => kf (Int.not_le.mp (fun q => h (Int32.le_iff_toInt_le.mpr (Int.not_lt.mp (fun z => absurd ((sg_i h1 h2 h3 h4).mp z) (Int.not_lt.mpr q))))))))
theorem ri_lxor_ge (hexec : p.tables.exec = Jvm.exec) (hb : c.code = cc) {a b : Int} {off : Int} {tgt : Nat} (hdg : decode cc pc = .ok (.lxor, 1)) (hdg0 : decode cc (pc + 1) = .ok (.lconst 0, 1)) (hdg1 : decode cc (pc + 2) = .ok (.lcmp, 1)) (hdg2 : decode cc (pc + 3) = .ok (.ifCond .ge off, 3)) (ht : ((pc + 3 : Nat) : Int) + off = (tgt : Int))
    (kt : 0 ≤ a → W p l e R s m args below meth c H locs cells slots Q (F0 m tgt ls (rest))) (kf : a < 0 → W p l e R s m args below meth c H locs cells slots Q (F0 m (pc + 6) ls (rest))) (h1 : -9223372036854775808 ≤ a := by omega) (h2 : a ≤ 9223372036854775807 := by omega) (h3 : 0 < b := by omega) (h4 : b ≤ 9223372036854775807 := by omega) : W p l e R s m args below meth c H locs cells slots Q (F0 m pc ls (.long (lL (b)) :: .long (lL (a)) :: rest)) := lv_lxor hexec hb hdg (lv_lconst (v := 0) hexec hb hdg0 (by decide) (W.lcmp hexec hb hdg1 (lv_if_ge hexec hb hdg2 ht (fun h => kt (Int.not_lt.mp (fun q => absurd ((sg_l h1 h2 h3 h4).mpr q) (Int.not_lt.mpr (Int64.le_iff_toInt_le.mp ((lg_cmp_ge _ _).mp h)))))) (fun h => kf (Int.not_le.mp (fun q => h ((lg_cmp_ge _ _).mpr (Int64.le_iff_toInt_le.mpr (Int.not_lt.mp (fun z => absurd ((sg_l h1 h2 h3 h4).mp z) (Int.not_lt.mpr q)))))))))))
end RI
end
section
/-! Contracts in one form: the claim's words at a state (tk), the world's cells, a definite answer; pure methods (the heap stays) and methods that write in their cells. -/
def wA (wc : va_W) (q : Nat) : Prop := ∃ (k : Nat) (e : va_E), wc[k]? = some (q, e)
def cPre (D : va_G) (tys : List (ClassId × FieldType)) (av : List Value) (wc : va_W) : Array Value → State → Prop :=
  va_Pc av (fun U => tk U ∧ va_K D vwCl tys U ∧ va_P D vwCl wc U.heap ∧ va_D (fun _ => True) wc)
theorem cPre_blind {D : va_G} {tys : List (ClassId × FieldType)} {av : List Value} {wc : va_W} : FrameBlind (cPre D tys av wc) := by
  intro a U g mk h
  obtain ⟨h0, h1, h2, h3, h4⟩ := h
  exact ⟨h0, tk_warm (s := U) (U := U.calling g mk a) (State.WarmedH.refl U) h1, va_K.moved (u := U) (U := U.calling g mk a) (Vm.Alike.refl U.vm) h2, h3, h4⟩
def pQ (v : Value) : Array Value → State → Outcome → State → Prop := fun _ st o t => o = .returned (some v) ∧ t.heap = st.heap
def mQ (D : va_G) (wc : va_W) (ans : Option Value) (w1 : va_W) : Array Value → State → Outcome → State → Prop := fun _ st o t => o = .returned ans ∧ va_P D vwCl w1 t.heap ∧ va_F (wA wc) st t
def pMet (l : Launch) (y : MethodName) (cc : ByteArray) (n : Nat) (r : Option FieldType) (rm : Room) (D : va_G) (tys : List (ClassId × FieldType)) (av : List Value) (wc : va_W) (v : Value) : Prop :=
  Met l y [Cond.code y cc n r] rm (cPre D tys av wc) (pQ v) 0 0 (fun _ => False)
def mMet (l : Launch) (y : MethodName) (cc : ByteArray) (n : Nat) (r : Option FieldType) (rm : Room) (D : va_G) (tys : List (ClassId × FieldType)) (av : List Value) (wc : va_W) (ans : Option Value) (w1 : va_W) : Prop :=
  Met l y [Cond.code y cc n r] rm (cPre D tys av wc) (mQ D wc ans w1) 0 0 (wA wc)
section CM
variable {l : Launch} {y : MethodName} {cc : ByteArray} {n : Nat} {r : Option FieldType} {rm : Room} {D : va_G} {tys : List (ClassId × FieldType)} {av : List Value} {wc w1 : va_W} {v : Value} {ans : Option Value}
theorem pMet_of (hy : plainName y.cls = true) (hn : (lg_sl av).length ≤ n)
    (body : ∀ p e s m below meth c, p.tables.exec = Jvm.exec → c.code = cc → meth.sig.returnType = r → s.vm.findClass y.cls = some m.cls → meth.locks = false → c.maxLocals = n → tk s → va_K D vwCl tys s → va_P D vwCl wc s.heap → va_D (fun _ => True) wc →
      ∀ ls : Array Slot, lv_has ls n (lv_args 0 av) → W p l e rm s m av.toArray below meth c s.heap [] 0 0 (MQ below (pQ v) av.toArray s 0 0 (fun _ => False)) (F0 m 0 ls [])) : pMet l y cc n r rm D tys av wc v := by
  refine Met.ofW (cc := cc) (maxL := n) (ret := r) hy rfl ?_
  intro p e s m args below meth c s₁ B hml hv
  obtain ⟨rfl, h1, h2, h3, h4⟩ := hv
  have hl := lv_entry av (n := n) hn
  rw [lg_entry_eq]
  exact body p e s m below meth c B.exec B.bytes B.returns (findClass_of_methodNamed B.named) B.notSynchronized hml h1 h2 h3 h4 _ hl
theorem mMet_of (hy : plainName y.cls = true) (hn : (lg_sl av).length ≤ n)
    (body : ∀ p e s m below meth c, p.tables.exec = Jvm.exec → c.code = cc → meth.sig.returnType = r → s.vm.findClass y.cls = some m.cls → meth.locks = false → c.maxLocals = n → tk s → va_K D vwCl tys s → va_P D vwCl wc s.heap → va_D (wA wc) wc → va_S (wA wc) s.heap s.heap [] →
      ∀ ls : Array Slot, lv_has ls n (lv_args 0 av) → W p l e rm s m av.toArray below meth c s.heap [] 0 0 (MQ below (mQ D wc ans w1) av.toArray s 0 0 (wA wc)) (F0 m 0 ls [])) : mMet l y cc n r rm D tys av wc ans w1 := by
  refine Met.ofW (cc := cc) (maxL := n) (ret := r) hy rfl ?_
  intro p e s m args below meth c s₁ B hml hv
  obtain ⟨rfl, h1, h2, h3, h4⟩ := hv
  have hl := lv_entry av (n := n) hn
  rw [lg_entry_eq]
  exact body p e s m below meth c B.exec B.bytes B.returns (findClass_of_methodNamed B.named) B.notSynchronized hml h1 h2 h3 ⟨h4.1, fun k q hk => ⟨k, q.2, hk⟩⟩ va_S.rf _ hl
end CM
section CR
variable {p : Program} {l : Launch} {e : Env} {R : Room} {s : State} {m : MethodId} {args : Array Value} {below : List Frame} {meth : Method} {c : Code} {H : Heap} {locs : List Loc} {cells slots : Nat} {Q : State → Prop}
variable {cc : ByteArray} {pc : Nat} {ls : Array Slot} {rest : List Value}
theorem p_iret {x z : Int} (hx : p.tables.exec = Jvm.exec) (hb : c.code = cc) (hr : meth.sig.returnType = some .int) (hlk : meth.locks = false) (hdg : decode cc pc = .ok (.ireturn, 1)) (h : x = z) :
    W p l e R s m args below meth c s.heap [] 0 0 (MQ below (pQ (.int (iI z))) args s 0 0 (fun _ => False)) (F0 m pc ls [.int (iI x)]) := by
  subst h
  exact W.iret hx hb hr (fun t ht _ => ⟨rfl, ht⟩) (fun _ h => by cases h) hdg hlk
theorem p_lret {x z : Int} (hx : p.tables.exec = Jvm.exec) (hb : c.code = cc) (hr : meth.sig.returnType = some .long) (hlk : meth.locks = false) (hdg : decode cc pc = .ok (.lreturn, 1)) (h : x = z) :
    W p l e R s m args below meth c s.heap [] 0 0 (MQ below (pQ (.long (lL z))) args s 0 0 (fun _ => False)) (F0 m pc ls [.long (lL x)]) := by
  subst h
  exact W.lret hx hb hr (fun t ht _ => ⟨rfl, ht⟩) (fun _ h => by cases h) hdg hlk
theorem zb_nar {x : Int} (h : x = 0 ∨ x = 1) : narrow .boolean (.int (iI x)) = .int (iI x) := by rcases h with rfl | rfl <;> rfl
theorem p_zret {x z : Int} (hx : p.tables.exec = Jvm.exec) (hb : c.code = cc) (hr : meth.sig.returnType = some .boolean) (hlk : meth.locks = false) (hdg : decode cc pc = .ok (.ireturn, 1)) (h : x = z) (h01 : x = 0 ∨ x = 1 := by omega) :
    W p l e R s m args below meth c s.heap [] 0 0 (MQ below (pQ (.int (iI z))) args s 0 0 (fun _ => False)) (F0 m pc ls [.int (iI x)]) := by
  subst h
  exact W.zret hx hb hr (zb_nar h01) (fun t ht _ => ⟨rfl, ht⟩) (fun _ h => by cases h) hdg hlk
theorem p_aret {q : Nat} {C : String} (hx : p.tables.exec = Jvm.exec) (hb : c.code = cc) (hr : meth.sig.returnType = some (.object C)) (hlk : meth.locks = false) (hdg : decode cc pc = .ok (.areturn, 1)) :
    W p l e R s m args below meth c s.heap [] 0 0 (MQ below (pQ (.ref q)) args s 0 0 (fun _ => False)) (F0 m pc ls [.ref q]) :=
  W.aret hx hb hr (Or.inl ⟨_, rfl⟩) (Or.inr ⟨_, rfl⟩) (fun t ht _ => ⟨rfl, ht⟩) (fun _ h => by cases h) hdg hlk
variable {D : va_G} {wc w w1 : va_W}
theorem m_vret (hx : p.tables.exec = Jvm.exec) (hb : c.code = cc) (hr : meth.sig.returnType = none) (hlk : meth.locks = false) (hP : va_P D vwCl w H) (hS : va_S (wA wc) s.heap H locs) (hdg : decode cc pc = .ok (.return_, 1)) (h : w = w1) :
    W p l e R s m args below meth c H locs 0 0 (MQ below (mQ D wc none w1) args s 0 0 (wA wc)) (F0 m pc ls []) := by
  subst h
  exact W.vret hx hb hr (fun t ht _ => ⟨rfl, by rw [ht]; exact hP, hS.F ht⟩) hS.2.2 hdg hlk
theorem m_iret {x z : Int} (hx : p.tables.exec = Jvm.exec) (hb : c.code = cc) (hr : meth.sig.returnType = some .int) (hlk : meth.locks = false) (hP : va_P D vwCl w H) (hS : va_S (wA wc) s.heap H locs) (hdg : decode cc pc = .ok (.ireturn, 1)) (h : w = w1) (h2 : x = z) :
    W p l e R s m args below meth c H locs 0 0 (MQ below (mQ D wc (some (.int (iI z))) w1) args s 0 0 (wA wc)) (F0 m pc ls [.int (iI x)]) := by
  subst h; subst h2
  exact W.iret hx hb hr (fun t ht _ => ⟨rfl, by rw [ht]; exact hP, hS.F ht⟩) hS.2.2 hdg hlk
theorem m_lret {x z : Int} (hx : p.tables.exec = Jvm.exec) (hb : c.code = cc) (hr : meth.sig.returnType = some .long) (hlk : meth.locks = false) (hP : va_P D vwCl w H) (hS : va_S (wA wc) s.heap H locs) (hdg : decode cc pc = .ok (.lreturn, 1)) (h : w = w1) (h2 : x = z) :
    W p l e R s m args below meth c H locs 0 0 (MQ below (mQ D wc (some (.long (lL z))) w1) args s 0 0 (wA wc)) (F0 m pc ls [.long (lL x)]) := by
  subst h; subst h2
  exact W.lret hx hb hr (fun t ht _ => ⟨rfl, by rw [ht]; exact hP, hS.F ht⟩) hS.2.2 hdg hlk
end CR
/-- cells put in place of others at the same addresses -/
def wset (W0 : va_W) : List Nat → va_W → va_W
  | i :: is, x :: xs => wset (W0.set i x) is xs
  | [], _ => W0
  | _ :: _, [] => W0
theorem wset_cases : ∀ (is : List Nat) (xs W0 : va_W) (k : Nat) (q : Nat × va_E), (wset W0 is xs)[k]? = some q → (∃ j : Nat, xs[j]? = some q ∧ is[j]? = some k) ∨ (W0[k]? = some q ∧ ∀ j : Nat, j < xs.length → is[j]? ≠ some k)
  | [], xs, W0, k, q, h => Or.inr ⟨by cases xs <;> exact h, fun j _ => by simp⟩
  | i :: is, [], W0, k, q, h => Or.inr ⟨h, fun j hj => by simp at hj⟩
  | i :: is, x :: xs, W0, k, q, h => by
    rcases wset_cases is xs (W0.set i x) k q h with ⟨j, h1, h2⟩ | ⟨h1, h2⟩
    · exact Or.inl ⟨j + 1, by simpa using h1, by simpa using h2⟩
    · by_cases e : i = k
      · subst e
        have hlt : i < W0.length := by
          have := (List.getElem?_eq_some_iff.mp h1).1
          simpa using this
        rw [List.getElem?_set_self hlt] at h1
        cases h1
        exact Or.inl ⟨0, rfl, rfl⟩
      · rw [List.getElem?_set_ne e] at h1
        refine Or.inr ⟨h1, fun j hj => ?_⟩
        cases j with
        | zero => simpa using e
        | succ j => simpa using h2 j (by simpa using hj)
theorem wset_fst : ∀ (is : List Nat) (xs W0 : va_W), (∀ (j i : Nat) (x : Nat × va_E), is[j]? = some i → xs[j]? = some x → (W0.map Prod.fst)[i]? = some x.1) → (wset W0 is xs).map Prod.fst = W0.map Prod.fst
  | [], xs, _, _ => by cases xs <;> rfl
  | _ :: _, [], _, _ => rfl
  | i :: is, x :: xs, W0, h => by
    have h0 : (W0.map Prod.fst)[i]? = some x.1 := h 0 i x rfl rfl
    have e : (W0.set i x).map Prod.fst = W0.map Prod.fst := by
      rw [List.map_set]
      refine List.ext_getElem? (fun k => ?_)
      by_cases hk : i = k
      · subst hk
        rw [List.getElem?_set_self (by have := (List.getElem?_eq_some_iff.mp h0).1; exact this), h0]
      · rw [List.getElem?_set_ne hk]
    show (wset (W0.set i x) is xs).map Prod.fst = _
    rw [wset_fst is xs (W0.set i x) (fun j i' x' h1 h2 => by rw [e]; exact h (j + 1) i' x' (by simpa using h1) (by simpa using h2)), e]
theorem va_D_fst {A : Nat → Prop} {ws ws' : va_W} (hD : va_D A ws) (h : ws'.map Prod.fst = ws.map Prod.fst) : va_D A ws' := by
  have key : ∀ (k : Nat) (q : Nat × va_E), ws'[k]? = some q → ∃ q0, ws[k]? = some q0 ∧ q0.1 = q.1 := by
    intro k q hk
    have h1 : (ws'.map Prod.fst)[k]? = some q.1 := by rw [List.getElem?_map, hk]; rfl
    rw [h, List.getElem?_map] at h1
    cases hq : ws[k]? with
    | none => rw [hq] at h1; cases h1
    | some q0 => rw [hq] at h1; exact ⟨q0, rfl, Option.some.inj h1⟩
  refine ⟨fun i j x y hi hj hxy => ?_, fun k q hk => ?_⟩
  · obtain ⟨x0, h1, h2⟩ := key i x hi
    obtain ⟨y0, h3, h4⟩ := key j y hj
    exact hD.1 i j x0 y0 h1 h3 (h2.trans (hxy.trans h4.symm))
  · obtain ⟨q0, h1, h2⟩ := key k q hk
    rw [← h2]; exact hD.2 k q0 h1
theorem wat {is : List Nat} {ws w : va_W} (h : is.map (fun i => ws[i]?) = w.map some) (k : Nat) (q : Nat × va_E) (hq : w[k]? = some q) : ∃ i, is[k]? = some i ∧ ws[i]? = some q := by
  have h1 : (is.map (fun i => ws[i]?))[k]? = some (some q) := by rw [h, List.getElem?_map, hq]; rfl
  rw [List.getElem?_map] at h1
  cases hi : is[k]? with
  | none => rw [hi] at h1; cases h1
  | some i => rw [hi] at h1; exact ⟨i, rfl, Option.some.inj h1⟩
theorem wcut {is : List Nat} {ws w : va_W} (h : is.map (fun i => ws[i]?) = w.map some) : is.filterMap (fun i => ws[i]?) = w := by
  induction is generalizing w with
  | nil => cases w with
    | nil => rfl
    | cons a b => cases h
  | cons i is ih => cases w with
    | nil => cases h
    | cons a b =>
      simp only [List.map_cons, List.cons.injEq] at h
      rw [List.filterMap_cons, h.1, ih h.2]
/-- behind a call that wrote in its cells -/
theorem wjoin {A : Nat → Prop} {D : va_G} {W0 wc w1 : va_W} {H H1 : Heap} {is : List Nat} (hP : va_P D vwCl W0 H) (hD : va_D A W0) (hC : is.map (fun i => W0[i]?) = wc.map some) (hf : w1.map Prod.fst = wc.map Prod.fst)
    (hk : ∀ q : Nat, q < H.size → ¬ wA wc q → H1[q]? = H[q]?) (hP1 : va_P D vwCl w1 H1) : va_P D vwCl (wset W0 is w1) H1 ∧ va_D A (wset W0 is w1) := by
  have hlen : w1.length = wc.length := by simpa using congrArg List.length hf
  have hlen2 : is.length = wc.length := by simpa using congrArg List.length hC
  refine ⟨fun k q hq => ?_, va_D_fst hD (wset_fst is w1 W0 (fun j i x h1 h2 => ?_))⟩
  · rcases wset_cases is w1 W0 k q hq with ⟨j, h1, -⟩ | ⟨h1, h2⟩
    · exact hP1 j q h1
    · have hl := (hP k q h1).lt
      refine (hP k q h1).kept (hk q.1 hl ?_)
      rintro ⟨j, ee, hj⟩
      obtain ⟨i, g1, g2⟩ := wat hC j (q.1, ee) hj
      have hik := hD.1 k i q (q.1, ee) h1 g2 rfl
      subst hik
      exact h2 j (by rw [hlen]; exact (List.getElem?_eq_some_iff.mp hj).1) g1
  · have e1 : (wc.map Prod.fst)[j]? = some x.1 := by rw [← hf, List.getElem?_map, h2]; rfl
    rw [List.getElem?_map] at e1
    cases hj : wc[j]? with
    | none => rw [hj] at e1; cases e1
    | some x0 =>
      rw [hj] at e1
      obtain ⟨i2, g1, g2⟩ := wat hC j x0 hj
      cases h1.symm.trans g1
      rw [List.getElem?_map, g2]
      exact e1
section CC
variable {p : Program} {l : Launch} {e : Env} {R : Room} {s : State} {m : MethodId} {args : Array Value} {below : List Frame} {meth : Method} {c : Code} {H : Heap} {locs : List Loc} {cells slots : Nat} {Q : State → Prop}
variable {cc : ByteArray} {pc : Nat} {ls : Array Slot} {rest st0 : List Value} {a : Array Value}
theorem p_run {v : Value} (hr : va_Run p l e R s m args below meth c H locs cells slots 0 0 (F0 m pc ls st0) rest (pQ v a) (fun _ => False))
    (kk : W p l e R s m args below meth c H locs cells slots Q (F0 m (pc + 3) ls (v :: rest))) : W p l e R s m args below meth c H locs cells slots Q (F0 m pc ls st0) := by
  intro T hT X
  obtain ⟨v', st₀, t, T', L, h0, X', hL, e1, e2, ⟨hv, hp⟩, st⟩ := hr T hT X
  cases hv
  have hL0 : L = [] := List.eq_nil_iff_forall_not_mem.mpr (fun q hq => hL q hq)
  subst hL0
  rw [List.append_nil] at X'
  obtain ⟨t2, a1, b1⟩ := kk T' (by rw [e1, hp, h0]) X'
  exact ⟨t2, st t2 a1, b1⟩
variable {D : va_G} {A : Nat → Prop} {H0 : Heap} {W0 wc w1 : va_W}
theorem m_run {ans : Option Value} (hr : va_Run p l e R s m args below meth c H locs cells slots 0 0 (F0 m pc ls st0) rest (mQ D wc ans w1 a) (wA wc)) (hP : va_P D vwCl W0 H) (hD : va_D A W0) (hS : va_S A H0 H locs)
    (is : List Nat) (hC : is.map (fun i => W0[i]?) = wc.map some) (hf : w1.map Prod.fst = wc.map Prod.fst)
    (kk : ∀ (H1 : Heap) (locs1 : List Loc), va_P D vwCl (wset W0 is w1) H1 → va_D A (wset W0 is w1) → va_S A H0 H1 locs1 → W p l e R s m args below meth c H1 locs1 cells slots Q (F0 m (pc + 3) ls (ans.toList ++ rest))) : W p l e R s m args below meth c H locs cells slots Q (F0 m pc ls st0) := by
  intro T hT X
  obtain ⟨v', st₀, t, T', L, h0, X', hL, e1, e2, ⟨hv, hp, hz, hk⟩, st⟩ := hr T hT X
  cases hv
  rw [h0] at hz hk
  have hA : ∀ q, wA wc q → A q := by
    rintro q ⟨k, ee, h⟩
    obtain ⟨i, -, g⟩ := wat hC k (q, ee) h
    exact hD.2 i (q, ee) g
  obtain ⟨j1, j2⟩ := wjoin hP hD hC hf hk hp
  obtain ⟨t2, a1, b1⟩ := kk T'.heap (locs ++ L) (by rw [e1]; exact j1) j2
    ⟨Nat.le_trans hS.1 (by rw [e1]; exact hz), fun q h1 h2 => by rw [e1, hk q (Nat.lt_of_lt_of_le h1 hS.1) (fun z => h2 (hA q z))]; exact hS.2.1 q h1 h2, fun q hq => by
      rcases List.mem_append.mp hq with h | h
      · exact hS.2.2 q h
      · exact hA _ (hL q h)⟩ T' rfl X'
  exact ⟨t2, st t2 a1, b1⟩
end CC
end
section
/-! Methods that may throw: their contracts, the throwing of a new exception, calls of such methods, the catching. -/
def xZ (n d : String) (aS : Nat) (U : State) (H : Heap) : Prop := ∃ (c : ClassId) (k : Class) (i : Nat) (f : Field) (cell : Cell) (u : RefV), U.vm.findClass Bundle.tN = some c ∧ U.fieldFound? Bundle.tN n d = some (c, k, i, f) ∧ f.isStatic = true ∧ k.statics = some aS ∧ H[aS]? = some cell ∧ cell.vm.isStatics = true ∧ cell.cls = c ∧ f.slot < cell.slots.size ∧ k.staticTypes[f.slot]? = some f.type ∧ cell.slots[f.slot]? = some u.v
theorem xZ.moved {n d : String} {aS : Nat} {u U : State} {H : Heap} (hvm : u.vm.Alike U.vm) (h : xZ n d aS u H) : xZ n d aS U H := by
  obtain ⟨c, k, i, f, cell, x, h1, h2, h3, h4, h5, h6, h7, h8, h9, h10⟩ := h
  obtain ⟨k', hi', he⟩ := State.fieldFound?_setVm hvm h2
  exact ⟨c, k', i, f, cell, x, by rw [hvm.findClass]; exact h1, hi', h3, by rw [he]; exact h4, h5, h6, h7, h8, by rw [he]; exact h9, h10⟩
theorem xZ.kept {n d : String} {aS : Nat} {U : State} {H H1 : Heap} (h : xZ n d aS U H) (hq : H1[aS]? = H[aS]?) : xZ n d aS U H1 := by
  obtain ⟨c, k, i, f, cell, x, h1, h2, h3, h4, h5, h6⟩ := h
  exact ⟨c, k, i, f, cell, x, h1, h2, h3, h4, by rw [hq]; exact h5, h6⟩
theorem xZ.word {n d : String} {aS : Nat} {s : State} {args : Array Value} (h : xZ n d aS s s.heap) : (Cond.laysStatic Bundle.tN n d).before args s = true := by
  obtain ⟨c, k, i, f, cell, x, h1, h2, h3, h4, h5, h6, h7, h8, h9, -⟩ := h
  show (Cond.laysStatic Bundle.tN n d).holds args s none s [] = true
  exact Cond.laysStatic_of h1 h2 h3 h4 h5 h6 h7 h8 h9
def xS (aS : Nat) (U : State) (H : Heap) : Prop := xZ "UNASSIGNED_STACK" Bundle.steD aS U H ∧ xZ "SUPPRESSED_SENTINEL" Bundle.listD aS U H ∧ aS < H.size
theorem xS.moved {aS : Nat} {u U : State} {H : Heap} (hvm : u.vm.Alike U.vm) (h : xS aS u H) : xS aS U H := ⟨h.1.moved hvm, h.2.1.moved hvm, h.2.2⟩
theorem xS.kept {aS : Nat} {U : State} {H H1 : Heap} (h : xS aS U H) (hq : H1[aS]? = H[aS]?) : xS aS U H1 := ⟨h.1.kept hq, h.2.1.kept hq, by
  obtain ⟨_, _, _, _, cell, _, _, _, _, _, h3, _⟩ := h.1
  rw [← hq] at h3
  exact (Array.getElem?_eq_some_iff.mp h3).1⟩
def xAtoms (own : String) (ic : Nat) (X : String) (names : List String) : List Cond :=
  Bundle.throwableAtoms ++ Bundle.chain0Atoms X names ++
  [.methodLink own ic (Bundle.init0 X), .instantiable X 6, .selects X Bundle.tFill0 Bundle.tFill0, .selects X Bundle.tFill Bundle.tFill,
   .lays X Bundle.tN "cause" "Ljava/lang/Throwable;", .lays X Bundle.tN "stackTrace" Bundle.steD, .lays X Bundle.tN "suppressedExceptions" Bundle.listD,
   .fieldLink Bundle.tN 198 Bundle.tN "backtrace" "Ljava/lang/Object;", .lays Bundle.tN Bundle.tN "backtrace" "Ljava/lang/Object;", .lays X Bundle.tN "backtrace" "Ljava/lang/Object;"]
set_option maxHeartbeats 1000000 in
/-- the constructor of a new exception, without a message, under a launch without stack traces -/
theorem x_ctor {p : Program} {l : Launch} {e : Env} {R : Room} {s : State} {m₀ : MethodId} {args : Array Value} {below : List Frame} {meth : Method} {c : Code} {T0 : State} {locs : List Loc} {cells slots : Nat}
    (X : Stand p l e R s m₀ args below meth c T0 locs cells slots) (hexec : p.tables.exec = Jvm.exec) (htr : e.platform.stackTraces = false) {own cls : String} {names : List String} {ic aS : Nat}
    (hown : s.vm.findClass own = some m₀.cls) (hcls : Bundle.fit cls = true) (hnames : ∀ n ∈ names, Bundle.fit n = true)
    (h : ∀ a ∈ xAtoms own ic cls names, a.before args s = true) (hZ : xS aS s T0.heap)
    {a : Addr} {cX : ClassId} {kX : Class} (hfoundX : s.vm.findClass cls = some cX) (hkX : s.vm.classes[cX]? = some kX) (hcell : T0.heap[a]? = some (freshCell cX kX)) (hnew : s.heap.size ≤ a) (hneS : aS ≠ a)
    {g : JFrame} (hg : g.method = m₀) (hsize : g.locals.size = c.maxLocals) {rest : List Value} (hstack : g.stack = .ref a :: .ref a :: rest)
    (hd6 : decode c.code g.pc = .ok (.invokespecial ic, 3))
    (hRframes : names.length + 3 < R.frames) (hRlocals : 2 * g.monitorRoom + ((Value.ref a :: rest).map fun v => v.category).sum + (13 * (names.length + 1) + 41) ≤ R.locals) :
    ∃ (vm' : Vm) (ce : Cell), ce.cls = cX ∧ ce.vm = .none ∧ Stand p l e R s m₀ args below meth c ((T0.setVm vm').setCell a ce) locs cells slots ∧
      ∀ target, Steps p.tables e below (((T0.setVm vm').setCell a ce).setTop { g with stack := .ref a :: rest, pc := g.pc + 3 }) target → Steps p.tables e below (T0.setTop g) target := by
  have howns : e.platform.frameOwnsMonitors = true := by rw [X.admits.platform]
  have hfin : e.platform.finalization = false := by rw [X.admits.platform]
  have hpl : e.platform.magicAccessors = ({} : Platform).magicAccessors := by rw [X.admits.platform]
  have a' : ∀ x, x ∈ xAtoms own ic cls names → x.holds args s none s [] = true := fun x hx => h x hx
  obtain ⟨T, Z, L, LZ, Y⟩ := ThrowableC.of_atoms (args := args) howns hfin hpl (fun x hx => h x (by simp [xAtoms, hx]))
  obtain ⟨P1, Ps, hlen, L1, hL, hP1m, hlink1, hlink⟩ := Bundle.chain0 (args := args) hpl Y.init0 names cls hcls hnames (fun x hx => h x (by simp [xAtoms, hx]))
  have hfound : s.vm.findClass cls = some P1.m.cls := findClass_of_methodNamed hP1m
  cases Option.some.inj (hfoundX.symm.trans hfound)
  obtain ⟨c1, kX', hc1, hk, hord, -, -, hn6⟩ := Cond.instantiable_spec (a' (.instantiable cls 6) (by simp [xAtoms]))
  cases Option.some.inj (hc1.symm.trans hfound)
  cases Option.some.inj (hkX.symm.trans hk)
  have hsel0 : selectMethod e.platform s.vm P1.m.cls T.fill0 = .method T.fill0 := by
    obtain ⟨c2, r2, m2, q1, q2, q3, q4, -⟩ := Cond.selects_spec (a' (.selects cls Bundle.tFill0 Bundle.tFill0) (by simp [xAtoms]))
    cases Option.some.inj (q1.symm.trans hfound)
    cases Option.some.inj (q2.symm.trans (State.methodFound?_of_named Y.fill0 (by decide)))
    cases Option.some.inj (q3.symm.trans Y.fill0)
    rw [Launch.admits_selectMethod X.admits]; exact q4
  have hselF : selectMethod e.platform s.vm P1.m.cls T.fill = .method T.fill := by
    obtain ⟨c2, r2, m2, q1, q2, q3, q4, -⟩ := Cond.selects_spec (a' (.selects cls Bundle.tFill Bundle.tFill) (by simp [xAtoms]))
    cases Option.some.inj (q1.symm.trans hfound)
    cases Option.some.inj (q2.symm.trans (State.methodFound?_of_named Y.fill (by decide)))
    cases Option.some.inj (q3.symm.trans Y.fill)
    rw [Launch.admits_selectMethod X.admits]; exact q4
  obtain ⟨⟨cf1, kf1, fi1, f1, cell1, u0, -, hf1, -, hs1, hc1', hi1, -, -, -, hv1⟩, ⟨cf2, kf2, fi2, f2, cell2, sen, -, hf2, -, hs2, hc2', hi2, -, -, -, hv2⟩, -⟩ := hZ
  cases hf1.symm.trans Y.unassigned
  cases hf2.symm.trans Y.sentinel
  cases hs1.symm.trans L.statics
  cases hc1'.symm.trans hc2'
  obtain ⟨ci198, i198, fB, hk198, hg198, ha198, hsB, -, hnB, htB, hffB⟩ := Cond.ownField (t := .object "java/lang/Object") Y.found L.cls (by decide +kernel) (a' (.fieldLink Bundle.tN 198 Bundle.tN "backtrace" "Ljava/lang/Object;") (by simp [xAtoms])) (a' (.lays Bundle.tN Bundle.tN "backtrace" "Ljava/lang/Object;") (by simp [xAtoms])) e.platform hpl
  have hknownS : cell1.vm ≠ .unknown := by
    intro hu
    rw [hu] at hi1
    cases hi1
  obtain ⟨tyC, dC, hdC, hdnC⟩ := Cond.laysAt hfound hk Y.cause (a' (.lays cls Bundle.tN "cause" "Ljava/lang/Throwable;") (by simp [xAtoms]))
  obtain ⟨tyS, dS, hdS, hdnS⟩ := Cond.laysAt hfound hk Y.stack (a' (.lays cls Bundle.tN "stackTrace" Bundle.steD) (by simp [xAtoms]))
  obtain ⟨tyP, dP, hdP, hdnP⟩ := Cond.laysAt hfound hk Y.supp (a' (.lays cls Bundle.tN "suppressedExceptions" Bundle.listD) (by simp [xAtoms]))
  obtain ⟨tyB, dB, hdB, hdnB⟩ := Cond.laysAt hfound hk hffB (a' (.lays cls Bundle.tN "backtrace" "Ljava/lang/Object;") (by simp [xAtoms]))
  have bC := Cond.laysApart hdB hdC hdnB hdnC (by rw [hnB, Y.causeName]; decide)
  have bS := Cond.laysApart hdB hdS hdnB hdnS (by rw [hnB, Y.stackName]; decide)
  have bP := Cond.laysApart hdB hdP hdnB hdnP (by rw [hnB, Y.suppName]; decide)
  have hskip : SkipFacts T e.platform s (fun u => u) u0 ((preparedCellV T.toThrowableT (freshCell P1.m.cls kX) a u0 sen).withEntry T0.cur) :=
    ⟨{ ci198 := ci198, i198 := i198, fBack := fB }, ⟨hk198, hg198, ha198, hsB⟩, by
      have := fresh_default (c := P1.m.cls) tyB
      rw [htB] at this
      simpa [preparedCellV, Cell.setSlot, Cell.withEntry, Array.getElem?_setIfInBounds, bC, bS, bP, bC.symm, bS.symm, bP.symm, defaultValue] using this, fun _ _ => rfl⟩
  obtain ⟨tm, methC, cdC, kC, vm₁, hnC, -, -, -, -, -, -, -, hW₁, st1⟩ := Steps.initCold (tb := p.tables) (e := e) (below := below) (s := s) (U := T0) X.here hexec X.warmed hpl hown (t := Bundle.init0 cls) rfl rfl (Bundle.fit_spec hcls).2
    (a' (.methodLink own ic (Bundle.init0 cls)) (by simp [xAtoms])) (h (.instanceMethod (Bundle.init0 cls)) (by cases names <;> simp [xAtoms, Bundle.chain0Atoms, Bundle.passAtoms])) (bytes := Bundle.five) (maxL := 1) (h (.code (Bundle.init0 cls) Bundle.five 1 none) (by cases names <;> simp [xAtoms, Bundle.chain0Atoms, Bundle.passAtoms]))
    (f := g) hg (a := a) (rest := .ref a :: rest) hstack hd6
  cases Option.some.inj (hnC.symm.trans hP1m)
  have X₁ := X.noted hW₁
  obtain ⟨vm₂, X₂, st2⟩ := X₁.ctorPlainOffV hexec (g := { g with stack := .ref a :: rest }) hg hsize T L Z LZ (P1 :: Ps)
    (fun P hP => by rcases List.mem_cons.mp hP with rfl | hP; exact L1; exact hL P hP) ⟨hlink1, hlink⟩ (u0 := u0) (sen := sen) (self := a) (cell := freshCell P1.m.cls kX) (cellS := cell1)
    hcell (fun _ => by simp) (by simp) rfl rfl hsel0 hselF hc1' hneS hknownS hv1 hv2
    (Takes.of_laid hk hord tyC (by rw [Y.causeType]; rfl)) (Takes.of_laid hk hord tyS (by rw [Y.stackType]; exact fits_refV_array _ u0)) (Takes.of_laid hk hord tyP (by rw [Y.suppType]; exact fits_refV_object _ sen)) Y.objLocals hskip htr [] hd6
    (by simp only [List.length_cons, hlen]; omega) (by simp only [List.length_cons, hlen]; exact hRlocals)
  refine ⟨vm₂, _, rfl, rfl, X₂.forget (fun y hy => ?_), fun target ht => st1 _ (fun acts => ?_)⟩
  · have hb : y.base = a := by
      simp only [List.mem_cons, List.not_mem_nil, or_false] at hy
      rcases hy with rfl | rfl | rfl | rfl <;> rfl
    rw [hb]; exact hnew
  · rw [doInvoke_state]
    exact st2 _ ht
def xCnt (o : Outcome) (k n : Nat) : Prop := match o with
  | .returned _ => k = 0 ∧ n = 0
  | .threw _ => k = 1 ∧ n = 6
def xEnd (wc : va_W) (st : State) (o : Outcome) (t : State) : Prop := ∃ (L : List Loc) (k n : Nat), st.WarmedH t.vm ∧ st.sameButNew ({ t with vm := st.vm } : State) L k n ∧ xCnt o k n ∧ ∀ q ∈ L, wA wc q.base
def xPre (D : va_G) (tys : List (ClassId × FieldType)) (aS : Nat) (av : List Value) (wc : va_W) : Array Value → State → Prop :=
  va_Pc av (fun U => tk U ∧ va_K D vwCl tys U ∧ va_P D vwCl wc U.heap ∧ va_D (fun q => q ≠ aS) wc ∧ xS aS U U.heap)
/-- an exception of the class X lies at x -/
def xAt (X : String) (x : Nat) (t : State) : Prop := ∃ ce : Cell, t.heap[x]? = some ce ∧ ce.vm = .none ∧ t.vm.findClass X = some ce.cls
def xQ (D : va_G) (wc : va_W) (res : Option (Option Value)) (X : String) (w1 : va_W) : Array Value → State → Outcome → State → Prop := fun _ st o t =>
  va_P D vwCl w1 t.heap ∧ va_F (wA wc) st t ∧ match res with
    | some ans => o = .returned ans
    | none => ∃ x : Nat, o = .threw x ∧ st.heap.size ≤ x ∧ xAt X x t
def xMet (l : Launch) (y : MethodName) (cc : ByteArray) (n : Nat) (r : Option FieldType) (rm : Room) (D : va_G) (tys : List (ClassId × FieldType)) (aS : Nat) (av : List Value) (wc : va_W) (res : Option (Option Value)) (X : String) (w1 : va_W) : Prop :=
  MetFree l y (headSpec [Cond.code y cc n r] rm) (xPre D tys aS av wc) (fun _ _ _ _ _ => True) (fun a st o t => xQ D wc res X w1 a st o t ∧ xEnd wc st o t)
def xMQ (below : List Frame) (Qc : Array Value → State → Outcome → State → Prop) (a : Array Value) (s : State) (wc : va_W) : State → Prop := fun t =>
  ∃ o, t.status = .running ∧ Ended t below o ∧ Qc a s o t ∧ xEnd wc s o t
theorem xMet_of {l : Launch} {y : MethodName} {cc : ByteArray} {n : Nat} {r : Option FieldType} {rm : Room} {D : va_G} {tys : List (ClassId × FieldType)} {aS : Nat} {av : List Value} {wc w1 : va_W} {res : Option (Option Value)} {X : String} (hy : plainName y.cls = true) (hn : (lg_sl av).length ≤ n)
    (body : ∀ p e s m below meth c, p.tables.exec = Jvm.exec → c.code = cc → meth.sig.returnType = r → s.vm.findClass y.cls = some m.cls → meth.locks = false → c.maxLocals = n → c.exceptionTable.isEmpty = true → tk s → va_K D vwCl tys s → va_P D vwCl wc s.heap → va_D (wA wc) wc → va_S (wA wc) s.heap s.heap [] → (∀ q, wA wc q → q ≠ aS) → xS aS s s.heap →
      ∀ ls : Array Slot, lv_has ls n (lv_args 0 av) → W p l e rm s m av.toArray below meth c s.heap [] 0 0 (xMQ below (xQ D wc res X w1) av.toArray s wc) (F0 m 0 ls [])) : xMet l y cc n r rm D tys aS av wc res X w1 := by
  refine MetFree.of_bodyS (code := cc) (maxLocals := n) (ret := r) hy ?_ ?_
  · intro args s m h hn
    obtain ⟨meth, c, h1, h2, h3, h4, h5, h6, -, -⟩ := Cond.code_spec hn (atoms_spec (ws := [Cond.code y cc n r]) h _ List.mem_cons_self)
    exact ⟨meth, c, h1, h2, h3, h4, h5, h6⟩
  · intro p e s m args below meth c s₁ B hml hv _
    obtain ⟨rfl, h1, h2, h3, h4, h5⟩ := hv
    have hh0 : s₁.heap = s.heap := by rw [B.state]; rfl
    have hl := lv_entry av (n := n) hn
    have hE := B.noHandlers (atoms_spec (ws := [Cond.code y cc n r]) B.pre _ List.mem_cons_self)
    have K := body p e s m below meth c B.exec B.bytes B.returns (findClass_of_methodNamed B.named) B.notSynchronized hml hE h1 h2 h3 ⟨h4.1, fun k q hk => ⟨k, q.2, hk⟩⟩ va_S.rf (fun q hq => by obtain ⟨k, ee, hk⟩ := hq; exact h4.2 k (q, ee) hk) h5 _ hl
    rw [← lg_entry_eq] at K
    obtain ⟨t, a1, o, b1, b2, b3⟩ := K s₁ hh0 (Stand.of_body B)
    exact ⟨t, o, a1, b1, b2, ⟨b3.1, b3.2⟩⟩
section XR
variable {p : Program} {l : Launch} {e : Env} {R : Room} {s : State} {m : MethodId} {args : Array Value} {below : List Frame} {meth : Method} {c : Code} {H : Heap} {locs : List Loc} {cells slots : Nat} {Q : State → Prop}
variable {cc : ByteArray} {pc : Nat} {ls : Array Slot} {rest : List Value} {D : va_G} {wc w w1 : va_W} {res : Option (Option Value)} {X : String}
theorem x_mono {Q' : State → Prop} {g : JFrame} (h : ∀ t, Q t → Q' t) (k : W p l e R s m args below meth c H locs cells slots Q g) : W p l e R s m args below meth c H locs cells slots Q' g := by
  intro T hT X
  obtain ⟨t, a, b⟩ := k T hT X
  exact ⟨t, a, h t b⟩
theorem xr_of {Qc : Array Value → State → Outcome → State → Prop} : ∀ t, MQ below Qc args s 0 0 (wA wc) t → xMQ below Qc args s wc t := by
  rintro t ⟨o, h1, h2, h3, L, ⟨⟨v, rfl⟩, h4, h5⟩, h6⟩
  exact ⟨_, h1, h2, h3, L, 0, 0, h4, h5, ⟨rfl, rfl⟩, h6⟩
theorem x_vret (hx : p.tables.exec = Jvm.exec) (hb : c.code = cc) (hr : meth.sig.returnType = none) (hlk : meth.locks = false) (hP : va_P D vwCl w H) (hS : va_S (wA wc) s.heap H locs) (hdg : decode cc pc = .ok (.return_, 1)) (h : w = w1) (hres : res = some none) :
    W p l e R s m args below meth c H locs 0 0 (xMQ below (xQ D wc res X w1) args s wc) (F0 m pc ls []) := by
  subst h; subst hres
  exact x_mono xr_of (W.vret hx hb hr (fun t ht _ => ⟨by rw [ht]; exact hP, hS.F ht, rfl⟩) hS.2.2 hdg hlk)
theorem x_iret {x z : Int} (hx : p.tables.exec = Jvm.exec) (hb : c.code = cc) (hr : meth.sig.returnType = some .int) (hlk : meth.locks = false) (hP : va_P D vwCl w H) (hS : va_S (wA wc) s.heap H locs) (hdg : decode cc pc = .ok (.ireturn, 1)) (h : w = w1) (hres : res = some (some (.int (iI z)))) (h2 : x = z) :
    W p l e R s m args below meth c H locs 0 0 (xMQ below (xQ D wc res X w1) args s wc) (F0 m pc ls [.int (iI x)]) := by
  subst h; subst hres; subst h2
  exact x_mono xr_of (W.iret hx hb hr (fun t ht _ => ⟨by rw [ht]; exact hP, hS.F ht, rfl⟩) hS.2.2 hdg hlk)
theorem x_lret {x z : Int} (hx : p.tables.exec = Jvm.exec) (hb : c.code = cc) (hr : meth.sig.returnType = some .long) (hlk : meth.locks = false) (hP : va_P D vwCl w H) (hS : va_S (wA wc) s.heap H locs) (hdg : decode cc pc = .ok (.lreturn, 1)) (h : w = w1) (hres : res = some (some (.long (lL z)))) (h2 : x = z) :
    W p l e R s m args below meth c H locs 0 0 (xMQ below (xQ D wc res X w1) args s wc) (F0 m pc ls [.long (lL x)]) := by
  subst h; subst hres; subst h2
  exact x_mono xr_of (W.lret hx hb hr (fun t ht _ => ⟨by rw [ht]; exact hP, hS.F ht, rfl⟩) hS.2.2 hdg hlk)
theorem x_aret {q : Nat} {C : String} (hx : p.tables.exec = Jvm.exec) (hb : c.code = cc) (hr : meth.sig.returnType = some (.object C)) (hlk : meth.locks = false) (hP : va_P D vwCl w H) (hS : va_S (wA wc) s.heap H locs) (hdg : decode cc pc = .ok (.areturn, 1)) (h : w = w1) (hres : res = some (some (.ref q))) :
    W p l e R s m args below meth c H locs 0 0 (xMQ below (xQ D wc res X w1) args s wc) (F0 m pc ls [.ref q]) := by
  subst h; subst hres
  exact x_mono xr_of (W.aret hx hb hr (Or.inl ⟨_, rfl⟩) (Or.inr ⟨_, rfl⟩) (fun t ht _ => ⟨by rw [ht]; exact hP, hS.F ht, rfl⟩) hS.2.2 hdg hlk)
/-- the words of a new exception's throwing: new at ix, the constructor at ic -/
def xWords (own : String) (ix ic : Nat) (X : String) (names : List String) : Prop := (∀ w ∈ (xAtoms own ic X names).filter tk_good, w ∈ tbg) ∧ (∀ w ∈ xAtoms own ic X names, tk_good w = true ∨ w = .laysStatic Bundle.tN "UNASSIGNED_STACK" Bundle.steD ∨ w = .laysStatic Bundle.tN "SUPPRESSED_SENTINEL" Bundle.listD) ∧ Cond.classLink own ix X ∈ tbg ∧ Cond.initialized X ∈ tbg ∧ Bundle.fit X = true ∧ ∀ n ∈ names, Bundle.fit n = true
theorem x_throw {own : String} {ix ic aS : Nat} {names : List String} (hx : p.tables.exec = Jvm.exec) (hb : c.code = cc) (hlk : meth.locks = false) (hml : c.maxLocals = ls.size) (hE : c.exceptionTable.isEmpty = true) (hown : s.vm.findClass own = some m.cls) (hk : tk s) (hoff : l.stackTraces = false) (K : xWords own ix ic X names)
    (hP : va_P D vwCl w H) (hS : va_S (wA wc) s.heap H locs) (hA : ∀ q, wA wc q → q ≠ aS) (hZ : xS aS s s.heap)
    (d0 : decode cc pc = .ok (.new ix, 3)) (d3 : decode cc (pc + 3) = .ok (.dup, 1)) (d4 : decode cc (pc + 4) = .ok (.invokespecial ic, 3)) (d7 : decode cc (pc + 7) = .ok (.athrow, 1))
    (h : w = w1) (hres : res = none) (hR : 1 ≤ R.cells ∧ 6 ≤ R.slots ∧ names.length + 3 < R.frames ∧ (rest.map fun v => v.category).sum + (13 * (names.length + 1) + 42) ≤ R.locals) :
    W p l e R s m args below meth c H locs 0 0 (xMQ below (xQ D wc res X w1) args s wc) (F0 m pc ls rest) := by
  subst h; subst hres
  obtain ⟨K1, K0, K2, K3, K4, K5⟩ := K
  have wd : ∀ w ∈ xAtoms own ic X names, w.before args s = true := fun w hw => by
    rcases K0 w hw with h | rfl | rfl
    · exact hk w (K1 w (List.mem_filter.mpr ⟨hw, h⟩)) args
    · exact hZ.1.word
    · exact hZ.2.1.word
  refine W.newc hx hb hown (hk _ K2 args) (wd (.instantiable X 6) (by simp [xAtoms])) (hk _ K3 args) rfl d0 (by omega) (by omega) (fun cC kC h1 h2 h3 h4 => ?_)
  refine lv_dup (va := .ref H.size) hx hb d3 rfl ?_
  intro T hT X0
  subst hb
  have hH : s.heap.size ≤ H.size := hS.1
  have hZH : xS aS s T.heap := by
    rw [hT]
    refine hZ.kept ?_
    rw [Array.getElem?_push, if_neg (by have := hZ.2.2; omega)]
    exact hS.2.1 aS hZ.2.2 (fun q => hA aS q rfl)
  obtain ⟨vm', ce, c1, c2, X1, st⟩ := x_ctor (a := H.size) (cX := cC) (kX := kC) (rest := rest) X0 hx (by rw [X0.admits.platform]; exact hoff) hown K4 K5 wd hZH h1 h2 (by rw [hT]; simp [freshCell]) hH (by have := hZ.2.2; omega)
    (g := F0 m (pc + 4) ls (.ref H.size :: .ref H.size :: rest)) rfl hml.symm rfl d4 hR.2.2.1 (by rw [List.map_cons, List.sum_cons]; show 2 * 0 + (1 + (rest.map fun v => v.category).sum) + _ ≤ _; omega)
  obtain ⟨hwalk, hrun, hended, hWU, hsame⟩ := X1.athrowLeaves hx (g := { F0 m (pc + 4) ls (.ref H.size :: .ref H.size :: rest) with stack := .ref H.size :: rest, pc := pc + 4 + 3 }) rfl rfl rfl (fun x hx => by rw [Array.isEmpty_iff] at hE; rw [hE] at hx; cases hx) (a := H.size) (rest := rest) rfl d7 hlk
  have hU : ((T.setVm vm').setCell H.size ce).heap = (H.push { cls := cC, slots := kC.instanceTypes.map defaultValue, vm := .none }).setIfInBounds H.size ce := by rw [← hT]; rfl
  have hat : ((T.setVm vm').setCell H.size ce).heap[H.size]? = some ce := by rw [hU]; simp
  have hlow : ∀ q : Nat, q < H.size → ((T.setVm vm').setCell H.size ce).heap[q]? = H[q]? := fun q hq => by
    rw [hU, Array.getElem?_setIfInBounds, if_neg (by omega), Array.getElem?_push, if_neg (by omega)]
  refine ⟨_, st _ hwalk, .threw H.size, hrun, hended, ⟨?_, ?_, H.size, rfl, hH, ce, hat, c2, ?_⟩, locs, 1, 6, hWU, ?_, ⟨rfl, rfl⟩, hS.2.2⟩
  · exact hP.kept (fun k q hq => hlow q.1 (hP k q hq).lt)
  · refine ⟨?_, fun q h1 h2 => ?_⟩
    · show s.heap.size ≤ ((T.setVm vm').setCell H.size ce).heap.size
      rw [hU]; simp; omega
    · exact (hlow q (by omega)).trans (hS.2.1 q h1 h2)
  · show ((T.setVm vm').setCell H.size ce).vm.findClass X = some ce.cls
    rw [c1, X1.warmed.alike.findClass]
    exact h1
  · exact hsame
end XR
end
section
/-! Calls: of pure methods, of methods that write, of methods that may throw. -/
def kBase (y : MethodName) (np : Nat) : Prop := y.cls ≠ "java/lang/invoke/MethodHandle" ∧ y.cls ≠ "java/lang/invoke/VarHandle" ∧ (parseMethodDescriptor y.desc).map (fun d => d.parameters.length) = some np
/-- the words of a static call -/
def kS (own : String) (ix : Nat) (y : MethodName) (cc : ByteArray) (n : Nat) (r : Option FieldType) (np : Nat) : Prop :=
  Cond.methodLink own ix y ∈ tbg ∧ Cond.static y ∈ tbg ∧ Cond.initialized y.cls ∈ tbg ∧ Cond.code y cc n r ∈ tbg ∧ kBase y np
/-- the words of a call on an object -/
def kV (own : String) (ix : Nat) (y : MethodName) (cc : ByteArray) (n : Nat) (r : Option FieldType) (np : Nat) : Prop :=
  Cond.methodLink own ix y ∈ tbg ∧ Cond.instanceMethod y ∈ tbg ∧ Cond.selects y.cls y y ∈ tbg ∧ Cond.initialized y.cls ∈ tbg ∧ Cond.code y cc n r ∈ tbg ∧ kBase y np
/-- the same, of a private method of a nest mate -/
def kN (own host : String) (ix : Nat) (y : MethodName) (cc : ByteArray) (n : Nat) (r : Option FieldType) (np : Nat) : Prop :=
  Cond.methodLinkNest own ix y host ∈ tbg ∧ Cond.instanceMethod y ∈ tbg ∧ Cond.selects y.cls y y ∈ tbg ∧ Cond.initialized y.cls ∈ tbg ∧ Cond.code y cc n r ∈ tbg ∧ kBase y np
theorem k_len {y : MethodName} {np : Nat} (h : kBase y np) : ∀ sig, parseMethodDescriptor y.desc = some sig → np = sig.parameters.length := by
  intro sig hs
  have h2 := h.2.2
  rw [hs] at h2
  exact (Option.some.inj h2).symm
theorem k_code {s U : State} {y : MethodName} {cc : ByteArray} {n : Nat} {r : Option FieldType} (hk : tk s) (h : Cond.code y cc n r ∈ tbg) (hW : s.WarmedH U.vm) (a : Array Value) : (Cond.code y cc n r).before a U = true := tk_warm hW hk _ h a
theorem k_ws {s : State} {y : MethodName} {cc : ByteArray} {n : Nat} {r : Option FieldType} (hk : tk s) (h : Cond.code y cc n r ∈ tbg) : ∀ w ∈ [Cond.code y cc n r], ∀ (a' : Array Value) (U : State), s.WarmedH U.vm → w.before a' U = true := by
  intro w hw a' U hW
  rw [List.mem_singleton] at hw
  subst hw
  exact k_code hk h hW a'
abbrev kR (R rm : Room) (maxL cells slots : Nat) : Prop := rm.frames + 1 ≤ R.frames ∧ 8 + (maxL + 11) + rm.locals ≤ R.locals ∧ cells + rm.cells ≤ R.cells ∧ slots + rm.slots ≤ R.slots
section KC
variable {p : Program} {l : Launch} {e : Env} {R : Room} {s : State} {m : MethodId} {args : Array Value} {below : List Frame} {meth : Method} {c : Code} {H : Heap} {locs : List Loc} {cells slots : Nat} {Q : State → Prop}
variable {cc bytes : ByteArray} {pc maxL np ix : Nat} {ls : Array Slot} {rest st0 av As : List Value} {own host : String} {y : MethodName} {ret : Option FieldType} {rm : Room} {D : va_G} {tys : List (ClassId × FieldType)} {wc : va_W} {v : Value}
theorem c_pre (hk : tk s) (hK : va_K D vwCl tys s) (hP : va_P D vwCl wc H) (hD : va_D (fun _ => True) wc) : ∀ U : State, U.heap = H → s.WarmedH U.vm → cPre D tys av wc av.toArray U :=
  fun U hU hW => ⟨rfl, tk_warm hW hk, va_K.moved hW.alike hK, by rw [hU]; exact hP, hD⟩
theorem p_callS (hx : p.tables.exec = Jvm.exec) (hb : c.code = cc) (hml : c.maxLocals = ls.size) (hown : s.vm.findClass own = some m.cls) (hk : tk s) (hK : va_K D vwCl tys s) (K : kS own ix y bytes maxL ret np) (hM : pMet l y bytes maxL ret rm D tys av wc v)
    (hP : va_P D vwCl wc H) (hD : va_D (fun _ => True) wc) (hst : st0 = av.reverse ++ rest) (hav : av.length = np) (hrm : rm.cells = 0 ∧ rm.slots = 0) (hR : kR R rm maxL cells slots) (hcat : (rest.map fun v => v.category).sum ≤ 8) (hdg : decode cc pc = .ok (.invokestatic ix, 3))
    (kk : W p l e R s m args below meth c H locs cells slots Q (F0 m (pc + 3) ls (v :: rest))) : W p l e R s m args below meth c H locs cells slots Q (F0 m pc ls st0) := by
  obtain ⟨k1, k2, k3, k4, k5⟩ := K
  obtain ⟨r1, r2, r3, r4⟩ := hR
  rw [hrm.1] at r3
  rw [hrm.2] at r4
  exact p_run (a := av.toArray) (va_runS (Ts := []) ⟨hx, hb, hml, hown, fun w h => by cases h⟩ hM ⟨⟨hrm.1, hrm.2, r1, r2, k_ws hk k4, List.mem_cons_self, hk _ k4 args, hk _ k3 args, ⟨k5.1, k5.2.1⟩, k_len k5, hk _ k1 args⟩, hk _ k2 args⟩ ⟨cPre_blind, c_pre hk hK hP hD⟩ rfl hav rfl hst (lv_room hcat) hdg ⟨r3, r4⟩) kk
theorem p_callV {b : Addr} {ci q0 : Nat} {fs : List Value} {T : u_T} {N : Nat} (hx : p.tables.exec = Jvm.exec) (hb : c.code = cc) (hml : c.maxLocals = ls.size) (hown : s.vm.findClass own = some m.cls) (hk : tk s) (hK : va_K D vwCl tys s) (K : kV own ix y bytes maxL ret np) (hM : pMet l y bytes maxL ret rm D tys (.ref b :: As) wc v)
    (hP : va_P D vwCl wc H) (hD : va_D (fun _ => True) wc) (he : wc[q0]? = some (b, .inr (ci, fs))) (hc : vwCl[ci]? = some (y.cls, T, N)) (hst : st0 = As.reverse ++ .ref b :: rest) (hav : As.length = np) (hrm : rm.cells = 0 ∧ rm.slots = 0) (hR : kR R rm maxL cells slots) (hcat : (rest.map fun v => v.category).sum ≤ 8) (hdg : decode cc pc = .ok (.invokevirtual ix, 3))
    (kk : W p l e R s m args below meth c H locs cells slots Q (F0 m (pc + 3) ls (v :: rest))) : W p l e R s m args below meth c H locs cells slots Q (F0 m pc ls st0) := by
  obtain ⟨k1, k2, k2', k3, k4, k5⟩ := K
  obtain ⟨r1, r2, r3, r4⟩ := hR
  rw [hrm.1] at r3
  rw [hrm.2] at r4
  exact p_run (a := (Value.ref b :: As).toArray) (va_runV (C := y.cls) (Ts := []) ⟨hx, hb, hml, hown, fun w h => by cases h⟩ hM ⟨⟨hrm.1, hrm.2, r1, r2, k_ws hk k4, List.mem_cons_self, hk _ k4 args, hk _ k3 args, ⟨k5.1, k5.2.1⟩, k_len k5, hk _ k1 args⟩, hk _ k2 args, hk _ k2' args⟩ ⟨cPre_blind, va_recv hK hP hc he, c_pre hk hK hP hD⟩ rfl hav rfl hst (lv_room hcat) hdg ⟨r3, r4⟩) kk
theorem p_callN {b : Addr} {ci q0 : Nat} {fs : List Value} {T : u_T} {N : Nat} (hx : p.tables.exec = Jvm.exec) (hb : c.code = cc) (hml : c.maxLocals = ls.size) (hown : s.vm.findClass own = some m.cls) (hk : tk s) (hK : va_K D vwCl tys s) (K : kN own host ix y bytes maxL ret np) (hM : pMet l y bytes maxL ret rm D tys (.ref b :: As) wc v)
    (hP : va_P D vwCl wc H) (hD : va_D (fun _ => True) wc) (he : wc[q0]? = some (b, .inr (ci, fs))) (hc : vwCl[ci]? = some (y.cls, T, N)) (hst : st0 = As.reverse ++ .ref b :: rest) (hav : As.length = np) (hrm : rm.cells = 0 ∧ rm.slots = 0) (hR : kR R rm maxL cells slots) (hcat : (rest.map fun v => v.category).sum ≤ 8) (hdg : decode cc pc = .ok (.invokevirtual ix, 3))
    (kk : W p l e R s m args below meth c H locs cells slots Q (F0 m (pc + 3) ls (v :: rest))) : W p l e R s m args below meth c H locs cells slots Q (F0 m pc ls st0) := by
  obtain ⟨k1, k2, k2', k3, k4, k5⟩ := K
  obtain ⟨r1, r2, r3, r4⟩ := hR
  rw [hrm.1] at r3
  rw [hrm.2] at r4
  exact p_run (a := (Value.ref b :: As).toArray) (va_runVN (host := host) (C := y.cls) (Ts := []) ⟨hx, hb, hml, hown, fun w h => by cases h⟩ hM ⟨⟨⟨hrm.1, hrm.2, r1, r2, k_ws hk k4, List.mem_cons_self⟩, hk _ k4 args, hk _ k3 args, ⟨k5.1, k5.2.1⟩, k_len k5, hk _ k1 args⟩, hk _ k2 args, hk _ k2' args⟩ ⟨cPre_blind, va_recv hK hP hc he, c_pre hk hK hP hD⟩ rfl hav rfl hst (lv_room hcat) hdg ⟨r3, r4⟩) kk
variable {A : Nat → Prop} {H0 : Heap} {W0 w1 : va_W} {ans : Option Value}
theorem w_subP {is : List Nat} (hP : va_P D vwCl W0 H) (hC : is.map (fun i => W0[i]?) = wc.map some) : va_P D vwCl wc H := hP.sub is (wcut hC)
theorem w_subD {is : List Nat} (hD : va_D A W0) (hC : is.map (fun i => W0[i]?) = wc.map some) (hn : va_nd is = true) : va_D (fun _ => True) wc := (hD.sub is hn hC).weaken (fun _ _ _ _ => trivial)
theorem m_callV {b : Addr} {ci q0 : Nat} {fs : List Value} {T : u_T} {N : Nat} (hx : p.tables.exec = Jvm.exec) (hb : c.code = cc) (hml : c.maxLocals = ls.size) (hown : s.vm.findClass own = some m.cls) (hk : tk s) (hK : va_K D vwCl tys s) (K : kV own ix y bytes maxL ret np) (hM : mMet l y bytes maxL ret rm D tys (.ref b :: As) wc ans w1)
    (hP : va_P D vwCl W0 H) (hD : va_D A W0) (hS : va_S A H0 H locs) (is : List Nat) (hC : is.map (fun i => W0[i]?) = wc.map some) (hn : va_nd is = true) (hf : w1.map Prod.fst = wc.map Prod.fst) (he : wc[q0]? = some (b, .inr (ci, fs))) (hc : vwCl[ci]? = some (y.cls, T, N)) (hst : st0 = As.reverse ++ .ref b :: rest) (hav : As.length = np) (hrm : rm.cells = 0 ∧ rm.slots = 0) (hR : kR R rm maxL cells slots) (hcat : (rest.map fun v => v.category).sum ≤ 8) (hdg : decode cc pc = .ok (.invokevirtual ix, 3))
    (kk : ∀ (H1 : Heap) (locs1 : List Loc), va_P D vwCl (wset W0 is w1) H1 → va_D A (wset W0 is w1) → va_S A H0 H1 locs1 → W p l e R s m args below meth c H1 locs1 cells slots Q (F0 m (pc + 3) ls (ans.toList ++ rest))) : W p l e R s m args below meth c H locs cells slots Q (F0 m pc ls st0) := by
  obtain ⟨k1, k2, k2', k3, k4, k5⟩ := K
  obtain ⟨r1, r2, r3, r4⟩ := hR
  rw [hrm.1] at r3
  rw [hrm.2] at r4
  have hPc := w_subP hP hC
  have hDc := w_subD hD hC hn
  exact m_run (a := (Value.ref b :: As).toArray) (va_runV (C := y.cls) (Ts := []) ⟨hx, hb, hml, hown, fun w h => by cases h⟩ hM ⟨⟨hrm.1, hrm.2, r1, r2, k_ws hk k4, List.mem_cons_self, hk _ k4 args, hk _ k3 args, ⟨k5.1, k5.2.1⟩, k_len k5, hk _ k1 args⟩, hk _ k2 args, hk _ k2' args⟩ ⟨cPre_blind, va_recv hK hPc hc he, c_pre hk hK hPc hDc⟩ rfl hav rfl hst (lv_room hcat) hdg ⟨r3, r4⟩) hP hD hS is hC hf kk
theorem m_callN {b : Addr} {ci q0 : Nat} {fs : List Value} {T : u_T} {N : Nat} (hx : p.tables.exec = Jvm.exec) (hb : c.code = cc) (hml : c.maxLocals = ls.size) (hown : s.vm.findClass own = some m.cls) (hk : tk s) (hK : va_K D vwCl tys s) (K : kN own host ix y bytes maxL ret np) (hM : mMet l y bytes maxL ret rm D tys (.ref b :: As) wc ans w1)
    (hP : va_P D vwCl W0 H) (hD : va_D A W0) (hS : va_S A H0 H locs) (is : List Nat) (hC : is.map (fun i => W0[i]?) = wc.map some) (hn : va_nd is = true) (hf : w1.map Prod.fst = wc.map Prod.fst) (he : wc[q0]? = some (b, .inr (ci, fs))) (hc : vwCl[ci]? = some (y.cls, T, N)) (hst : st0 = As.reverse ++ .ref b :: rest) (hav : As.length = np) (hrm : rm.cells = 0 ∧ rm.slots = 0) (hR : kR R rm maxL cells slots) (hcat : (rest.map fun v => v.category).sum ≤ 8) (hdg : decode cc pc = .ok (.invokevirtual ix, 3))
    (kk : ∀ (H1 : Heap) (locs1 : List Loc), va_P D vwCl (wset W0 is w1) H1 → va_D A (wset W0 is w1) → va_S A H0 H1 locs1 → W p l e R s m args below meth c H1 locs1 cells slots Q (F0 m (pc + 3) ls (ans.toList ++ rest))) : W p l e R s m args below meth c H locs cells slots Q (F0 m pc ls st0) := by
  obtain ⟨k1, k2, k2', k3, k4, k5⟩ := K
  obtain ⟨r1, r2, r3, r4⟩ := hR
  rw [hrm.1] at r3
  rw [hrm.2] at r4
  have hPc := w_subP hP hC
  have hDc := w_subD hD hC hn
  exact m_run (a := (Value.ref b :: As).toArray) (va_runVN (host := host) (C := y.cls) (Ts := []) ⟨hx, hb, hml, hown, fun w h => by cases h⟩ hM ⟨⟨⟨hrm.1, hrm.2, r1, r2, k_ws hk k4, List.mem_cons_self⟩, hk _ k4 args, hk _ k3 args, ⟨k5.1, k5.2.1⟩, k_len k5, hk _ k1 args⟩, hk _ k2 args, hk _ k2' args⟩ ⟨cPre_blind, va_recv hK hPc hc he, c_pre hk hK hPc hDc⟩ rfl hav rfl hst (lv_room hcat) hdg ⟨r3, r4⟩) hP hD hS is hC hf kk
end KC
/-- calls that may throw: what comes of them -/
def xOut (g : JFrame) (rest : List Value) (T' : State) : Outcome → State
  | .returned v => T'.setTop { g with pc := g.pc + 3, stack := v.toList ++ rest }
  | .threw x => (T'.setTop { g with stack := rest }).pushFrame (.throwing x)
theorem x_heap (T : State) (g : JFrame) : (T.setTop g).heap = T.heap := by simp [State.setTop, State.modifyTopJava]
theorem x_vm (T : State) (g : JFrame) : (T.setTop g).vm = T.vm := by simp [State.setTop, State.modifyTopJava]
theorem xPre_blind {D : va_G} {tys : List (ClassId × FieldType)} {aS : Nat} {av : List Value} {wc : va_W} : FrameBlind (xPre D tys aS av wc) := by
  intro a U g mk h
  obtain ⟨h0, h1, h2, h3, h4, h5⟩ := h
  exact ⟨h0, tk_warm (s := U) (U := U.calling g mk a) (State.WarmedH.refl U) h1, va_K.moved (u := U) (U := U.calling g mk a) (Vm.Alike.refl U.vm) h2, h3, h4, xS.moved (u := U) (U := U.calling g mk a) (Vm.Alike.refl U.vm) h5⟩
section XC
variable {p : Program} {l : Launch} {e : Env} {R : Room} {s : State} {m : MethodId} {args : Array Value} {below : List Frame} {meth : Method} {c : Code} {H : Heap} {locs : List Loc} {cells slots : Nat} {Q : State → Prop}
variable {cc bytes : ByteArray} {pc maxL np ix aS : Nat} {ls : Array Slot} {rest st0 av As : List Value} {own host : String} {y : MethodName} {ret : Option FieldType} {rm : Room} {D : va_G} {tys : List (ClassId × FieldType)} {wc wcC w1 w1C W0 : va_W} {v : Value} {res : Option (Option Value)} {X : String}
theorem xInto {T : State} (X0 : Stand p l e R s m args below meth c T locs cells slots) (hM : xMet l y bytes maxL ret rm D tys aS av wc res X w1) {g : JFrame} {ig : Instr} (hg : g.method = m) (hsize : g.locals.size = c.maxLocals) (hdg : decode c.code g.pc = .ok (ig, 3))
    {mk : MethodId} (hn : T.methodNamed? y = some mk) (hk : tk T) (hc : Cond.code y bytes maxL ret ∈ tbg) (hi : Cond.initialized y.cls ∈ tbg) (hcat : 2 * g.monitorRoom + (g.stack.map fun v => v.category).sum ≤ 8) (hR : kR R rm maxL cells slots) (hpre : xPre D tys aS av wc av.toArray T) :
    ∃ (o : Outcome) (t T' : State) (L : List Loc) (k n : Nat), Stand p l e R s m args below meth c T' (locs ++ L) (cells + k) (slots + n) ∧ xCnt o k n ∧ (∀ q ∈ L, wA wc q.base) ∧ T'.heap = t.heap ∧ T'.vm = t.vm ∧ xQ D wc res X w1 av.toArray (T.calling g mk av.toArray) o t ∧
      Steps p.tables e below (doInvoke e (T.setTop g) [] mk av.toArray).1 (xOut g g.stack T' o) := by
  obtain ⟨r1, r2, r3, r4⟩ := hR
  obtain ⟨methY, cY, hmY, hcY, -, hlY, -, -, -, -⟩ := Cond.code_spec hn (hk _ hc #[])
  obtain ⟨kY, hkY, -⟩ := className_of_methodNamed hn
  have hinitY : kY.init = .initialized := Cond.initialized_spec (findClass_of_methodNamed hn) hkY (hk _ hi #[])
  have h : At T g.method c below := by rw [hg]; exact X0.here
  have happ : (headSpec [Cond.code y bytes maxL ret] rm).appliesLoose y e.platform (T.calling g mk av.toArray) = true :=
    Spec.appliesLoose_calling (g := g) h hdg hn hkY hinitY (X0.room_calling (g := g) (R' := rm) hsize hmY hcY r1 (by rw [hlY]; omega) r3 r4) (atoms_intro (fun w hw => by rw [List.mem_singleton] at hw; subst hw; exact hk _ hc _))
  obtain ⟨mid, hmid⟩ := h.above
  have hfr : (T.setTop g).frames = (.java g :: mid) ++ below := by rw [State.frames_setTop' g h.top, hmid]; rfl
  obtain ⟨o, s₂, hsteps, -, hend, hq, L, k, n, hW, hs, hcnt, hL⟩ := Steps.callFree hM p X0.admits X0.cas X0.clock (acts := []) hfr happ (xPre_blind _ T g mk hpre) trivial
  rw [State.frames_setTop' g h.top, X0.tail] at hend
  cases o with
  | returned v =>
    obtain ⟨T', X', -, -, ht⟩ := X0.outOf hg hdg hend hW hs
    exact ⟨.returned v, s₂, T', L, k, n, X', hcnt, hL, by rw [ht, x_heap], by rw [ht, x_vm], hq, by rw [ht] at hsteps; exact hsteps⟩
  | threw x =>
    obtain ⟨T', X', -, -, ht⟩ := X0.outOfThrown hg hend hW hs
    exact ⟨.threw x, s₂, T', L, k, n, X', hcnt, hL, by rw [ht, Stand.throwing_heap], by rw [ht, Stand.throwing_vm], hq, by rw [ht] at hsteps; exact hsteps⟩
def xRun (p : Program) (l : Launch) (e : Env) (R : Room) (s : State) (m : MethodId) (args : Array Value) (below : List Frame) (meth : Method) (c : Code) (H : Heap) (locs : List Loc) (cells slots : Nat) (g : JFrame) (rest : List Value) (Qa : State → Outcome → State → Prop) (wc : va_W) : Prop :=
  ∀ T : State, T.heap = H → Stand p l e R s m args below meth c T locs cells slots → ∃ (o : Outcome) (st₀ t T' : State) (L : List Loc) (k n : Nat), st₀.heap = H ∧ Stand p l e R s m args below meth c T' (locs ++ L) (cells + k) (slots + n) ∧ xCnt o k n ∧ (∀ q ∈ L, wA wc q.base) ∧ T'.heap = t.heap ∧ T'.vm = t.vm ∧ Qa st₀ o t ∧
    ∀ target, Steps p.tables e below (xOut g rest T' o) target → Steps p.tables e below (T.setTop g) target
theorem x_pre (hk : tk s) (hK : va_K D vwCl tys s) (hP : va_P D vwCl wc H) (hD : va_D (fun q => q ≠ aS) wc) (hZ : xS aS s H) : ∀ U : State, U.heap = H → s.WarmedH U.vm → xPre D tys aS av wc av.toArray U :=
  fun U hU hW => ⟨rfl, tk_warm hW hk, va_K.moved hW.alike hK, by rw [hU]; exact hP, hD, by rw [hU]; exact hZ.moved hW.alike⟩
theorem x_runS (hx : p.tables.exec = Jvm.exec) (hb : c.code = cc) (hml : c.maxLocals = ls.size) (hown : s.vm.findClass own = some m.cls) (hk : tk s) (hK : va_K D vwCl tys s) (K : kS own ix y bytes maxL ret np) (hM : xMet l y bytes maxL ret rm D tys aS av wc res X w1)
    (hP : va_P D vwCl wc H) (hD : va_D (fun q => q ≠ aS) wc) (hZ : xS aS s H) (hst : st0 = av.reverse ++ rest) (hav : av.length = np) (hR : kR R rm maxL cells slots) (hcat : (rest.map fun v => v.category).sum ≤ 8) (hdg : decode cc pc = .ok (.invokestatic ix, 3)) :
    xRun p l e R s m args below meth c H locs cells slots (F0 m pc ls st0) rest (xQ D wc res X w1 av.toArray) wc := by
  obtain ⟨k1, k2, k3, k4, k5⟩ := K
  intro T hT X0
  subst hb
  obtain ⟨mk, hnamed⟩ := Cond.code_named (hk _ k4 args)
  obtain ⟨methM, cM, hmethM, -, -, -, -, -, -, hsigM⟩ := Cond.code_spec hnamed (hk _ k4 args)
  have hstatic : methM.isStatic = true := Cond.static_spec hnamed hmethM (hk _ k2 args)
  obtain ⟨kP, hkP, -⟩ := className_of_methodNamed hnamed
  have hinitP : kP.init = .initialized := Cond.initialized_spec (findClass_of_methodNamed hnamed) hkP (hk _ k3 args)
  obtain ⟨vm₁, X₁, hstep₁⟩ := X0.invokestatic hx hown (hk _ k1 args) hnamed hmethM hstatic hkP hinitP ⟨k5.1, k5.2.1⟩ (g := F0 m pc ls st0) rfl (argsL := av) (rest := rest) (hav.trans (k_len k5 _ hsigM)) hst hdg
  obtain ⟨o, t, T', L, k, n, X', h1, h2, h3, h4, h5, h6⟩ := xInto X₁ hM (g := F0 m pc ls rest) rfl hml.symm hdg (X₁.named hnamed) (tk_warm X₁.warmed hk) k4 k3 (lv_room hcat) hR (x_pre hk hK hP hD hZ _ hT X₁.warmed)
  exact ⟨o, _, t, T', L, k, n, hT, X', h1, h2, h3, h4, h5, fun target h => hstep₁ _ fun acts => by rw [doInvoke_state]; exact h6.trans h⟩
theorem x_runV {b : Addr} {ci q0 : Nat} {fs : List Value} {TT : u_T} {N : Nat} (hx : p.tables.exec = Jvm.exec) (hb : c.code = cc) (hml : c.maxLocals = ls.size) (hown : s.vm.findClass own = some m.cls) (hk : tk s) (hK : va_K D vwCl tys s) (K : kV own ix y bytes maxL ret np) (hM : xMet l y bytes maxL ret rm D tys aS (.ref b :: As) wc res X w1)
    (hP : va_P D vwCl wc H) (hD : va_D (fun q => q ≠ aS) wc) (hZ : xS aS s H) (he : wc[q0]? = some (b, .inr (ci, fs))) (hc : vwCl[ci]? = some (y.cls, TT, N)) (hst : st0 = As.reverse ++ .ref b :: rest) (hav : As.length = np) (hR : kR R rm maxL cells slots) (hcat : (rest.map fun v => v.category).sum ≤ 8) (hdg : decode cc pc = .ok (.invokevirtual ix, 3)) :
    xRun p l e R s m args below meth c H locs cells slots (F0 m pc ls st0) rest (xQ D wc res X w1 (Value.ref b :: As).toArray) wc := by
  obtain ⟨k1, k2, k2', k3, k4, k5⟩ := K
  intro T hT X0
  subst hb
  obtain ⟨mk, methM, hnamed, hmethM, hstM, habM⟩ := Cond.instanceMethod_spec (hk _ k2 args)
  obtain ⟨methM', cM, hmethM', -, -, -, -, -, -, hsigM⟩ := Cond.code_spec hnamed (hk _ k4 args)
  cases hmethM.symm.trans hmethM'
  obtain ⟨c2, r2, m2, q1, q2, q3, q4, kP, hkP, hkPi⟩ := Cond.selects_spec (hk _ k2' args)
  obtain ⟨cellB, hcB, hoB, hclB⟩ := va_recv hK hP hc he
  cases hclB.symm.trans q1
  cases (State.methodFound?_of_named hnamed ⟨k5.1, k5.2.1⟩).symm.trans q2
  cases hnamed.symm.trans q3
  have hselP : selectMethod e.platform s.vm cellB.cls mk = .method mk := by rw [Launch.admits_selectMethod X0.admits]; exact q4
  obtain ⟨vm₁, X₁, hstep₁⟩ := X0.invokevirtual hx hown (hk _ k1 args) hnamed hmethM hstM hkP hkPi ⟨k5.1, k5.2.1⟩ (a := b) (cell := cellB) (by rw [hT]; exact hcB)
    (fun z h => by rw [h] at hoB; cases hoB) hselP hmethM habM hkP hkPi (g := F0 m pc ls st0) rfl (argsL := As) (rest := rest) (hav.trans (k_len k5 _ hsigM)) hst hdg
  obtain ⟨o, t, T', L, k, n, X', h1, h2, h3, h4, h5, h6⟩ := xInto X₁ hM (g := F0 m pc ls rest) rfl hml.symm hdg (X₁.named hnamed) (tk_warm X₁.warmed hk) k4 k3 (lv_room hcat) hR (x_pre hk hK hP hD hZ _ hT X₁.warmed)
  exact ⟨o, _, t, T', L, k, n, hT, X', h1, h2, h3, h4, h5, fun target h => hstep₁ _ fun acts => by rw [doInvoke_state]; exact h6.trans h⟩
variable {A : Nat → Prop} {H0 : Heap} {a : Array Value} {ans : Option Value}
/-- it came back -/
theorem x_ok (hr : xRun p l e R s m args below meth c H locs cells slots (F0 m pc ls st0) rest (xQ D wcC (some ans) X w1C a) wcC) (hP : va_P D vwCl W0 H) (hD : va_D A W0) (hS : va_S A H0 H locs)
    (is : List Nat) (hC : is.map (fun i => W0[i]?) = wcC.map some) (hf : w1C.map Prod.fst = wcC.map Prod.fst)
    (kk : ∀ (H1 : Heap) (locs1 : List Loc), va_P D vwCl (wset W0 is w1C) H1 → va_D A (wset W0 is w1C) → va_S A H0 H1 locs1 → W p l e R s m args below meth c H1 locs1 cells slots Q (F0 m (pc + 3) ls (ans.toList ++ rest))) : W p l e R s m args below meth c H locs cells slots Q (F0 m pc ls st0) := by
  intro T hT X0
  obtain ⟨o, st₀, t, T', L, k, n, h0, X', hcnt, hL, e1, e2, ⟨hp, ⟨hz, hk⟩, ho⟩, st⟩ := hr T hT X0
  cases ho
  obtain ⟨rfl, rfl⟩ := hcnt
  rw [h0] at hz hk
  have hA : ∀ q, wA wcC q → A q := by
    rintro q ⟨k, ee, h⟩
    obtain ⟨i, -, g⟩ := wat hC k (q, ee) h
    exact hD.2 i (q, ee) g
  obtain ⟨j1, j2⟩ := wjoin hP hD hC hf hk hp
  obtain ⟨t2, a1, b1⟩ := kk T'.heap (locs ++ L) (by rw [e1]; exact j1) j2
    ⟨Nat.le_trans hS.1 (by rw [e1]; exact hz), fun q h1 h2 => by rw [e1, hk q (Nat.lt_of_lt_of_le h1 hS.1) (fun z => h2 (hA q z))]; exact hS.2.1 q h1 h2, fun q hq => by
      rcases List.mem_append.mp hq with h | h
      · exact hS.2.2 q h
      · exact hA _ (hL q h)⟩ T' rfl X'
  exact ⟨t2, st t2 a1, b1⟩
/-- it threw, and nothing here catches it -/
theorem x_thr (hr : xRun p l e R s m args below meth c H locs 0 0 (F0 m pc ls st0) rest (xQ D wcC none X w1C a) wcC) (hE : c.exceptionTable.isEmpty = true) (hlk : meth.locks = false) (hP : va_P D vwCl W0 H) (hD : va_D (wA wc) W0) (hS : va_S (wA wc) s.heap H locs)
    (is : List Nat) (hC : is.map (fun i => W0[i]?) = wcC.map some) (hf : w1C.map Prod.fst = wcC.map Prod.fst) (h : wset W0 is w1C = w1) (hres : res = none) :
    W p l e R s m args below meth c H locs 0 0 (xMQ below (xQ D wc res X w1) args s wc) (F0 m pc ls st0) := by
  subst h; subst hres
  intro T hT X0
  obtain ⟨o, st₀, t, T', L, k, n, h0, X', hcnt, hL, e1, e2, ⟨hp, ⟨hz, hk⟩, ⟨x, rfl, hx, ce, c1, c2, c3⟩⟩, st⟩ := hr T hT X0
  obtain ⟨rfl, rfl⟩ := hcnt
  rw [h0] at hz hk hx
  have hA : ∀ q, wA wcC q → wA wc q := by
    rintro q ⟨k, ee, h⟩
    obtain ⟨i, -, g⟩ := wat hC k (q, ee) h
    exact hD.2 i (q, ee) g
  obtain ⟨j1, j2⟩ := wjoin hP hD hC hf hk hp
  obtain ⟨hwalk, hrun, hended, hWU, hsame⟩ := X'.leaveThrown x (g := F0 m pc ls rest) rfl rfl rfl (fun z hz => by rw [Array.isEmpty_iff] at hE; rw [hE] at hz; cases hz) hlk
  refine ⟨_, st _ hwalk, .threw x, hrun, hended, ⟨?_, ⟨?_, fun q h1 h2 => ?_⟩, x, rfl, Nat.le_trans hS.1 hx, ce, ?_, c2, ?_⟩, locs ++ L, 1, 6, hWU, hsame, ⟨rfl, rfl⟩, fun q hq => ?_⟩
  · show va_P D vwCl (wset W0 is w1C) T'.heap
    rw [e1]; exact j1
  · show s.heap.size ≤ T'.heap.size
    rw [e1]; exact Nat.le_trans hS.1 hz
  · show T'.heap[q]? = s.heap[q]?
    rw [e1, hk q (Nat.lt_of_lt_of_le h1 hS.1) (fun z => h2 (hA q z))]
    exact hS.2.1 q h1 h2
  · show T'.heap[x]? = some ce
    rw [e1]; exact c1
  · show T'.vm.findClass X = some ce.cls
    rw [e2]; exact c3
  · rcases List.mem_append.mp hq with h | h
    · exact hS.2.2 q h
    · exact hA _ (hL q h)
end XC
end
section
/-! Fields and arrays, in short rows. -/
def fG (own : String) (ix : Nat) (ref : String) (ci : Nat) (C : String) (T : u_T) (N k : Nat) : Prop :=
  vwCl[ci]? = some (C, T, N) ∧ k < N ∧ (∀ w ∈ u_ws C T N, w ∈ tbg) ∧ Cond.fieldLink own ix ref (T k).2.1 (T k).2.2.1 ∈ tbg ∧ (T k).1 = ref
/-- of a nest mate -/
def fN (own host : String) (ix : Nat) (ref : String) (ci : Nat) (C : String) (T : u_T) (N k : Nat) : Prop :=
  vwCl[ci]? = some (C, T, N) ∧ k < N ∧ (∀ w ∈ u_ws C T N, w ∈ tbg) ∧ Cond.fieldLinkNest own ix ref (T k).2.1 (T k).2.2.1 host ∈ tbg ∧ (T k).1 = ref
def fT (T : u_T) (N : Nat) (ty : Nat → FieldType) : Prop := (∀ k, k < N → parseFieldDescriptor (T k).2.2.1 = some (ty k)) ∧ ∀ a, a < N → ∀ b, b < N → a ≠ b → (T a).2.1 ≠ (T b).2.1
section GH
variable {p : Program} {l : Launch} {e : Env} {R : Room} {s : State} {m : MethodId} {args : Array Value} {below : List Frame} {meth : Method} {c : Code} {H : Heap} {locs : List Loc} {cells slots : Nat} {Q : State → Prop}
variable {cc : ByteArray} {pc ix ci N k a : Nat} {ls : Array Slot} {rest : List Value} {own host ref C : String} {T : u_T} {D : va_G} {A : Nat → Prop} {tys : List (ClassId × FieldType)} {ws : va_W} {H0 : Heap} {fs : List Value} {v : Value} {ty : Nat → FieldType}
theorem g_get (hx : p.tables.exec = Jvm.exec) (hb : c.code = cc) (hk : tk s) (hown : s.vm.findClass own = some m.cls) (hK : va_K D vwCl tys s) (hP : va_P D vwCl ws H) (q0 : Nat) (he : ws[q0]? = some (a, .inr (ci, fs))) (F : fG own ix ref ci C T N k) (hv : fs[k]? = some v) (hdg : decode cc pc = .ok (.getfield ix, 3))
    (kk : W p l e R s m args below meth c H locs cells slots Q (F0 m (pc + 3) ls (v :: rest))) : W p l e R s m args below meth c H locs cells slots Q (F0 m pc ls (.ref a :: rest)) := by
  obtain ⟨h1, h2, h3, h4, h5⟩ := F
  exact va_get (Ts := tbg) hx hb (fun w hw => hk w hw args) h3 hown hK hP q0 he h1 k h2 (hk _ h4 args) (fun x h => by rw [← h5]; exact h) hv hdg kk
theorem g_getN (hx : p.tables.exec = Jvm.exec) (hb : c.code = cc) (hk : tk s) (hown : s.vm.findClass own = some m.cls) (hK : va_K D vwCl tys s) (hP : va_P D vwCl ws H) (q0 : Nat) (he : ws[q0]? = some (a, .inr (ci, fs))) (F : fN own host ix ref ci C T N k) (hv : fs[k]? = some v) (hdg : decode cc pc = .ok (.getfield ix, 3))
    (kk : W p l e R s m args below meth c H locs cells slots Q (F0 m (pc + 3) ls (v :: rest))) : W p l e R s m args below meth c H locs cells slots Q (F0 m pc ls (.ref a :: rest)) := by
  obtain ⟨h1, h2, h3, h4, h5⟩ := F
  exact va_getN (Ts := tbg) hx hb (fun w hw => hk w hw args) h3 hown hK hP q0 he h1 k h2 (hk _ h4 args) (fun x h => by rw [← h5]; exact h) hv hdg kk
theorem g_put (hx : p.tables.exec = Jvm.exec) (hb : c.code = cc) (hk : tk s) (hown : s.vm.findClass own = some m.cls) (hK : va_K D vwCl tys s) (hP : va_P D vwCl ws H) (hD : va_D A ws) (hS : va_S A H0 H locs) (q0 : Nat) (he : ws[q0]? = some (a, .inr (ci, fs))) (F : fG own ix ref ci C T N k) (FT : fT T N ty) (hfin : (T k).2.2.2 = false) (hn : narrow (ty k) v = v) (hfit : fits (ty k) v = true) (hl : k < fs.length) (hdg : decode cc pc = .ok (.putfield ix, 3))
    (kk : ∀ (H1 : Heap) (locs1 : List Loc), va_P D vwCl (ws.set q0 (a, .inr (ci, fs.set k v))) H1 → va_D A (ws.set q0 (a, .inr (ci, fs.set k v))) → va_S A H0 H1 locs1 → W p l e R s m args below meth c H1 locs1 cells slots Q (F0 m (pc + 3) ls rest)) : W p l e R s m args below meth c H locs cells slots Q (F0 m pc ls (v :: .ref a :: rest)) := by
  obtain ⟨h1, h2, h3, h4, h5⟩ := F
  exact va_put (Ts := tbg) hx hb (fun w hw => hk w hw args) h3 ty FT.1 FT.2 hown hK hP hD hS q0 he h1 k h2 (hk _ h4 args) (fun x h => by rw [← h5]; exact h) hfin (FT.1 k h2) hn hfit hl hdg kk
theorem g_putN (hx : p.tables.exec = Jvm.exec) (hb : c.code = cc) (hk : tk s) (hown : s.vm.findClass own = some m.cls) (hK : va_K D vwCl tys s) (hP : va_P D vwCl ws H) (hD : va_D A ws) (hS : va_S A H0 H locs) (q0 : Nat) (he : ws[q0]? = some (a, .inr (ci, fs))) (F : fN own host ix ref ci C T N k) (FT : fT T N ty) (hfin : (T k).2.2.2 = false) (hn : narrow (ty k) v = v) (hfit : fits (ty k) v = true) (hl : k < fs.length) (hdg : decode cc pc = .ok (.putfield ix, 3))
    (kk : ∀ (H1 : Heap) (locs1 : List Loc), va_P D vwCl (ws.set q0 (a, .inr (ci, fs.set k v))) H1 → va_D A (ws.set q0 (a, .inr (ci, fs.set k v))) → va_S A H0 H1 locs1 → W p l e R s m args below meth c H1 locs1 cells slots Q (F0 m (pc + 3) ls rest)) : W p l e R s m args below meth c H locs cells slots Q (F0 m pc ls (v :: .ref a :: rest)) := by
  obtain ⟨h1, h2, h3, h4, h5⟩ := F
  exact va_putN (Ts := tbg) hx hb (fun w hw => hk w hw args) h3 ty FT.1 FT.2 hown hK hP hD hS q0 he h1 k h2 (hk _ h4 args) (fun x h => by rw [← h5]; exact h) hfin (FT.1 k h2) hn hfit hl hdg kk
theorem ix_in {i n : Nat} (h : i < n) (hn : n ≤ 2147483647) : vp_in (iI (i : Int)) n := iI_in (by omega) (by omega) (by omega)
theorem ix_cl {i : Nat} (h : i ≤ 2147483647) : (iI (i : Int)).toNatClampNeg = i := by rw [iI_cl (by omega) (by omega)]; omega
variable {n i t0 : Nat} {cA : ClassId}
theorem g_iald {f : Nat → Int32} (hx : p.tables.exec = Jvm.exec) (hb : c.code = cc) (hK : va_K D vwCl tys s) (hP : va_P D vwCl ws H) (q0 t0 : Nat) (ha : ws[q0]? = some (a, .inl (cA, n, .inl f))) (ht : tys[t0]? = some (cA, .int)) (hdg : decode cc pc = .ok (.iaload, 1))
    (kk : W p l e R s m args below meth c H locs cells slots Q (F0 m (pc + 1) ls (.int (f i) :: rest))) (hi : i < n := by omega) (hn : n ≤ 2147483647 := by omega) : W p l e R s m args below meth c H locs cells slots Q (F0 m pc ls (.int (iI (i : Int)) :: .ref a :: rest)) :=
  va_iald hx hb hK hP q0 t0 ha ht (ix_in hi hn) hdg (by rw [ix_cl (by omega)]; exact kk)
theorem g_bald {f : Nat → Int32} (hx : p.tables.exec = Jvm.exec) (hb : c.code = cc) (hK : va_K D vwCl tys s) (hP : va_P D vwCl ws H) (q0 t0 : Nat) (ha : ws[q0]? = some (a, .inl (cA, n, .inl f))) (ht : tys[t0]? = some (cA, .byte)) (hdg : decode cc pc = .ok (.baload, 1))
    (kk : W p l e R s m args below meth c H locs cells slots Q (F0 m (pc + 1) ls (.int (f i) :: rest))) (hi : i < n := by omega) (hn : n ≤ 2147483647 := by omega) : W p l e R s m args below meth c H locs cells slots Q (F0 m pc ls (.int (iI (i : Int)) :: .ref a :: rest)) :=
  va_bald hx hb hK hP q0 t0 ha ht (ix_in hi hn) hdg (by rw [ix_cl (by omega)]; exact kk)
theorem g_zald {f : Nat → Int32} (hx : p.tables.exec = Jvm.exec) (hb : c.code = cc) (hK : va_K D vwCl tys s) (hP : va_P D vwCl ws H) (q0 t0 : Nat) (ha : ws[q0]? = some (a, .inl (cA, n, .inl f))) (ht : tys[t0]? = some (cA, .boolean)) (hdg : decode cc pc = .ok (.baload, 1))
    (kk : W p l e R s m args below meth c H locs cells slots Q (F0 m (pc + 1) ls (.int (f i) :: rest))) (hi : i < n := by omega) (hn : n ≤ 2147483647 := by omega) : W p l e R s m args below meth c H locs cells slots Q (F0 m pc ls (.int (iI (i : Int)) :: .ref a :: rest)) :=
  va_zald hx hb hK hP q0 t0 ha ht (ix_in hi hn) hdg (by rw [ix_cl (by omega)]; exact kk)
theorem g_lald {f : Nat → Int64} (hx : p.tables.exec = Jvm.exec) (hb : c.code = cc) (hK : va_K D vwCl tys s) (hP : va_P D vwCl ws H) (q0 t0 : Nat) (ha : ws[q0]? = some (a, .inl (cA, n, .inr (.inl f)))) (ht : tys[t0]? = some (cA, .long)) (hdg : decode cc pc = .ok (.laload, 1))
    (kk : W p l e R s m args below meth c H locs cells slots Q (F0 m (pc + 1) ls (.long (f i) :: rest))) (hi : i < n := by omega) (hn : n ≤ 2147483647 := by omega) : W p l e R s m args below meth c H locs cells slots Q (F0 m pc ls (.int (iI (i : Int)) :: .ref a :: rest)) :=
  va_lald hx hb hK hP q0 t0 ha ht (ix_in hi hn) hdg (by rw [ix_cl (by omega)]; exact kk)
/-- a reference out of an array of references, of objects or of arrays -/
theorem g_aald {f : Nat → Option Nat} {q : Nat} {tyC : FieldType} (hx : p.tables.exec = Jvm.exec) (hb : c.code = cc) (hK : va_K D vwCl tys s) (hP : va_P D vwCl ws H) (q0 t0 : Nat) (ha : ws[q0]? = some (a, .inl (cA, n, .inr (.inr (.inr (.inr f)))))) (ht : tys[t0]? = some (cA, tyC)) (hrt : tyC.isReference = true) (hq : f i = some q) (hdg : decode cc pc = .ok (.aaload, 1))
    (kk : W p l e R s m args below meth c H locs cells slots Q (F0 m (pc + 1) ls (.ref q :: rest))) (hi : i < n := by omega) (hn : n ≤ 2147483647 := by omega) : W p l e R s m args below meth c H locs cells slots Q (F0 m pc ls (.int (iI (i : Int)) :: .ref a :: rest)) := by
  have hin := ix_in hi hn
  have hlt : (iI (i : Int)).toNatClampNeg < n := by rw [ix_cl (by omega)]; exact hi
  have e : f (iI (i : Int)).toNatClampNeg = some q := by rw [ix_cl (by omega)]; exact hq
  exact W.aald (v := .ref q) (ty := tyC) hx hb (hP q0 _ ha) ((hK.2 t0 _ ht).1 n (fun j => va_rf (f j))) hrt (fun q => by cases q) (by show ¬ (iI (i : Int) < 0 ∨ (arrV _ _ _).slots.size ≤ _); rw [arrV_size]; exact hin) (by show (arrV _ _ _).slots[_]? = _; rw [arrV_read _ _ hlt, e]; rfl) rfl rfl hdg kk
theorem g_iast {f : Nat → Int32} {x : Int32} (hx : p.tables.exec = Jvm.exec) (hb : c.code = cc) (hK : va_K D vwCl tys s) (hP : va_P D vwCl ws H) (hD : va_D A ws) (hS : va_S A H0 H locs) (q0 t0 : Nat) (ha : ws[q0]? = some (a, .inl (cA, n, .inl f))) (ht : tys[t0]? = some (cA, .int)) (hdg : decode cc pc = .ok (.iastore, 1))
    (kk : ∀ (H1 : Heap) (locs1 : List Loc), va_P D vwCl (ws.set q0 (a, .inl (cA, n, .inl (upd f i x)))) H1 → va_D A (ws.set q0 (a, .inl (cA, n, .inl (upd f i x)))) → va_S A H0 H1 locs1 → W p l e R s m args below meth c H1 locs1 cells slots Q (F0 m (pc + 1) ls rest)) (hi : i < n := by omega) (hn : n ≤ 2147483647 := by omega) : W p l e R s m args below meth c H locs cells slots Q (F0 m pc ls (.int x :: .int (iI (i : Int)) :: .ref a :: rest)) :=
  va_iast hx hb hK hP hD hS q0 t0 ha ht (ix_in hi hn) hdg (by rw [ix_cl (by omega)]; exact kk)
theorem g_bast {f : Nat → Int32} {x : Int32} (hx : p.tables.exec = Jvm.exec) (hb : c.code = cc) (hK : va_K D vwCl tys s) (hP : va_P D vwCl ws H) (hD : va_D A ws) (hS : va_S A H0 H locs) (q0 t0 : Nat) (ha : ws[q0]? = some (a, .inl (cA, n, .inl f))) (ht : tys[t0]? = some (cA, .byte)) (hdg : decode cc pc = .ok (.bastore, 1))
    (kk : ∀ (H1 : Heap) (locs1 : List Loc), va_P D vwCl (ws.set q0 (a, .inl (cA, n, .inl (upd f i x)))) H1 → va_D A (ws.set q0 (a, .inl (cA, n, .inl (upd f i x)))) → va_S A H0 H1 locs1 → W p l e R s m args below meth c H1 locs1 cells slots Q (F0 m (pc + 1) ls rest)) (hxn : vp_nar .byte x = x) (hi : i < n := by omega) (hn : n ≤ 2147483647 := by omega) : W p l e R s m args below meth c H locs cells slots Q (F0 m pc ls (.int x :: .int (iI (i : Int)) :: .ref a :: rest)) :=
  va_bast hx hb hK hP hD hS q0 t0 ha ht (ix_in hi hn) hdg (by rw [ix_cl (by omega), hxn]; exact kk)
theorem g_zast {f : Nat → Int32} {x : Int32} (hx : p.tables.exec = Jvm.exec) (hb : c.code = cc) (hK : va_K D vwCl tys s) (hP : va_P D vwCl ws H) (hD : va_D A ws) (hS : va_S A H0 H locs) (q0 t0 : Nat) (ha : ws[q0]? = some (a, .inl (cA, n, .inl f))) (ht : tys[t0]? = some (cA, .boolean)) (hdg : decode cc pc = .ok (.bastore, 1))
    (kk : ∀ (H1 : Heap) (locs1 : List Loc), va_P D vwCl (ws.set q0 (a, .inl (cA, n, .inl (upd f i x)))) H1 → va_D A (ws.set q0 (a, .inl (cA, n, .inl (upd f i x)))) → va_S A H0 H1 locs1 → W p l e R s m args below meth c H1 locs1 cells slots Q (F0 m (pc + 1) ls rest)) (hxn : vp_nar .boolean x = x) (hi : i < n := by omega) (hn : n ≤ 2147483647 := by omega) : W p l e R s m args below meth c H locs cells slots Q (F0 m pc ls (.int x :: .int (iI (i : Int)) :: .ref a :: rest)) :=
  va_zast hx hb hK hP hD hS q0 t0 ha ht (ix_in hi hn) hdg (by rw [ix_cl (by omega), hxn]; exact kk)
theorem g_last {f : Nat → Int64} {x : Int64} (hx : p.tables.exec = Jvm.exec) (hb : c.code = cc) (hK : va_K D vwCl tys s) (hP : va_P D vwCl ws H) (hD : va_D A ws) (hS : va_S A H0 H locs) (q0 t0 : Nat) (ha : ws[q0]? = some (a, .inl (cA, n, .inr (.inl f)))) (ht : tys[t0]? = some (cA, .long)) (hdg : decode cc pc = .ok (.lastore, 1))
    (kk : ∀ (H1 : Heap) (locs1 : List Loc), va_P D vwCl (ws.set q0 (a, .inl (cA, n, .inr (.inl (vp_updL f i x))))) H1 → va_D A (ws.set q0 (a, .inl (cA, n, .inr (.inl (vp_updL f i x))))) → va_S A H0 H1 locs1 → W p l e R s m args below meth c H1 locs1 cells slots Q (F0 m (pc + 1) ls rest)) (hi : i < n := by omega) (hn : n ≤ 2147483647 := by omega) : W p l e R s m args below meth c H locs cells slots Q (F0 m pc ls (.long x :: .int (iI (i : Int)) :: .ref a :: rest)) :=
  va_last hx hb hK hP hD hS q0 t0 ha ht (ix_in hi hn) hdg (by rw [ix_cl (by omega)]; exact kk)
theorem nil_P : va_P D vwCl [] H := fun k q h => by simp at h
theorem nil_D {B : Nat → Prop} : va_D B [] := ⟨fun i j x y h => by simp at h, fun k q h => by simp at h⟩
end GH
end
section
/-! What the pools name, by the claim's words. By program (wip/whole/links.py). -/
theorem fT_Rule : fT T_Rule 4 ty_Rule := ⟨ok_Rule, nm_Rule⟩
theorem fT_Tape : fT T_Tape 4 ty_Tape := ⟨ok_Tape, nm_Tape⟩
theorem fT_Zone : fT T_Zone 4 ty_Zone := ⟨ok_Zone, nm_Zone⟩
theorem fT_Clk : fT T_Clk 4 ty_Clk := ⟨ok_Clk, nm_Clk⟩
theorem fT_Ref : fT T_Ref 15 ty_Ref := ⟨ok_Ref, nm_Ref⟩
set_option maxRecDepth 20000 in
theorem f_Clk_10 : fG R_Clk 10 "ZoneClock" 3 R_Clk T_Clk 4 0 := ⟨rfl, by decide, in_Clk, tb_mem (N := 91) rfl rfl, rfl⟩
set_option maxRecDepth 20000 in
theorem f_Clk_19 : fG R_Clk 19 "ZoneClock" 3 R_Clk T_Clk 4 1 := ⟨rfl, by decide, in_Clk, tb_mem (N := 92) rfl rfl, rfl⟩
set_option maxRecDepth 20000 in
theorem f_Clk_23 : fG R_Clk 23 "ZoneClock" 3 R_Clk T_Clk 4 2 := ⟨rfl, by decide, in_Clk, tb_mem (N := 93) rfl rfl, rfl⟩
set_option maxRecDepth 20000 in
theorem f_Clk_27 : fG R_Clk 27 "ZoneClock" 3 R_Clk T_Clk 4 3 := ⟨rfl, by decide, in_Clk, tb_mem (N := 94) rfl rfl, rfl⟩
set_option maxRecDepth 20000 in
theorem f_Tape_9 : fG R_Tape 9 "ZoneClock$Tape" 1 R_Tape T_Tape 4 0 := ⟨rfl, by decide, in_Tape, tb_mem (N := 29) rfl rfl, rfl⟩
set_option maxRecDepth 20000 in
theorem f_Zone_12 : fG R_Zone 12 "ZoneClock$Zone" 2 R_Zone T_Zone 4 2 := ⟨rfl, by decide, in_Zone, tb_mem (N := 77) rfl rfl, rfl⟩
set_option maxRecDepth 20000 in
theorem f_Zone_18 : fG R_Zone 18 "ZoneClock$Zone" 2 R_Zone T_Zone 4 3 := ⟨rfl, by decide, in_Zone, tb_mem (N := 79) rfl rfl, rfl⟩
set_option maxRecDepth 20000 in
theorem k_Law_7 : kV R_Law 7 y_Clk_feed c_Clk_feed 6 (some .int) 5 := ⟨tb_mem (N := 112) rfl rfl, tb_mem (N := 113) rfl rfl, tb_mem (N := 114) rfl rfl, tb_mem (N := 1) rfl rfl, tb_mem (N := 115) rfl rfl, ⟨by decide, by decide, by decide +kernel⟩⟩
set_option maxRecDepth 20000 in
theorem f_Clk_31 : fN R_Clk "ZoneClock" 31 "ZoneClock$Tape" 1 R_Tape T_Tape 4 1 := ⟨rfl, by decide, in_Tape, tb_mem (N := 30) rfl rfl, rfl⟩
set_option maxRecDepth 20000 in
theorem k_Clk_37 : kV R_Clk 37 y_Tape_append c_Tape_append 3 none 1 := ⟨tb_mem (N := 180) rfl rfl, tb_mem (N := 181) rfl rfl, tb_mem (N := 182) rfl rfl, tb_mem (N := 2) rfl rfl, tb_mem (N := 183) rfl rfl, ⟨by decide, by decide, by decide +kernel⟩⟩
set_option maxRecDepth 20000 in
theorem f_Tape_15 : fG R_Tape 15 "ZoneClock$Tape" 1 R_Tape T_Tape 4 1 := ⟨rfl, by decide, in_Tape, tb_mem (N := 31) rfl rfl, rfl⟩
set_option maxRecDepth 20000 in
theorem k_Law_15 : kV R_Law 15 y_Clk_end c_Clk_end 2 (some .int) 1 := ⟨tb_mem (N := 188) rfl rfl, tb_mem (N := 189) rfl rfl, tb_mem (N := 190) rfl rfl, tb_mem (N := 1) rfl rfl, tb_mem (N := 191) rfl rfl, ⟨by decide, by decide, by decide +kernel⟩⟩
set_option maxRecDepth 20000 in
theorem k_Law_21 : kV R_Law 21 y_Clk_zone c_Clk_zone 3 none 1 := ⟨tb_mem (N := 211) rfl rfl, tb_mem (N := 212) rfl rfl, tb_mem (N := 213) rfl rfl, tb_mem (N := 1) rfl rfl, tb_mem (N := 214) rfl rfl, ⟨by decide, by decide, by decide +kernel⟩⟩
set_option maxRecDepth 20000 in
theorem k_Clk_44 : kV R_Clk 44 y_Clk_zoneAt c_Clk_zoneAt 2 (some (.object "ZoneClock$Zone")) 1 := ⟨tb_mem (N := 215) rfl rfl, tb_mem (N := 217) rfl rfl, tb_sel (N := 1) rfl rfl, tb_mem (N := 1) rfl rfl, tb_mem (N := 218) rfl rfl, ⟨by decide, by decide, by decide +kernel⟩⟩
set_option maxRecDepth 20000 in
theorem k_Clk_48 : kV R_Clk 48 y_Tape_readZone c_Tape_readZone 2 (some .int) 1 := ⟨tb_mem (N := 219) rfl rfl, tb_mem (N := 220) rfl rfl, tb_mem (N := 221) rfl rfl, tb_mem (N := 2) rfl rfl, tb_mem (N := 222) rfl rfl, ⟨by decide, by decide, by decide +kernel⟩⟩
set_option maxRecDepth 20000 in
theorem k_Clk_55 : kV R_Clk 55 y_Zone_become c_Zone_become 2 none 1 := ⟨tb_mem (N := 273) rfl rfl, tb_mem (N := 274) rfl rfl, tb_mem (N := 275) rfl rfl, tb_mem (N := 3) rfl rfl, tb_mem (N := 276) rfl rfl, ⟨by decide, by decide, by decide +kernel⟩⟩
set_option maxRecDepth 20000 in
theorem f_Tape_19 : fG R_Tape 19 "ZoneClock$Tape" 1 R_Tape T_Tape 4 2 := ⟨rfl, by decide, in_Tape, tb_mem (N := 32) rfl rfl, rfl⟩
set_option maxRecDepth 20000 in
theorem f_Tape_22 : fG R_Tape 22 "ZoneClock$Tape" 1 R_Tape T_Tape 4 3 := ⟨rfl, by decide, in_Tape, tb_mem (N := 33) rfl rfl, rfl⟩
set_option maxRecDepth 20000 in
theorem k_Tape_26 : kV R_Tape 26 y_Tape_readOffset c_Tape_readOffset 3 (some .int) 0 := ⟨tb_mem (N := 223) rfl rfl, tb_mem (N := 225) rfl rfl, tb_sel (N := 2) rfl rfl, tb_mem (N := 2) rfl rfl, tb_mem (N := 226) rfl rfl, ⟨by decide, by decide, by decide +kernel⟩⟩
set_option maxRecDepth 20000 in
theorem f_Tape_30 : fN R_Tape "ZoneClock" 30 "ZoneClock$Zone" 2 R_Zone T_Zone 4 0 := ⟨rfl, by decide, in_Zone, tb_mem (N := 74) rfl rfl, rfl⟩
set_option maxRecDepth 20000 in
theorem f_Tape_35 : fN R_Tape "ZoneClock" 35 "ZoneClock$Zone" 2 R_Zone T_Zone 4 1 := ⟨rfl, by decide, in_Zone, tb_mem (N := 76) rfl rfl, rfl⟩
set_option maxRecDepth 20000 in
theorem k_Tape_38 : kV R_Tape 38 y_Tape_readBlanks c_Tape_readBlanks 1 none 0 := ⟨tb_mem (N := 250) rfl rfl, tb_mem (N := 252) rfl rfl, tb_sel (N := 7) rfl rfl, tb_mem (N := 2) rfl rfl, tb_mem (N := 253) rfl rfl, ⟨by decide, by decide, by decide +kernel⟩⟩
set_option maxRecDepth 20000 in
theorem k_Tape_41 : kV R_Tape 41 y_Tape_readNumber c_Tape_readNumber 5 (some .int) 2 := ⟨tb_mem (N := 235) rfl rfl, tb_mem (N := 237) rfl rfl, tb_sel (N := 5) rfl rfl, tb_mem (N := 2) rfl rfl, tb_mem (N := 238) rfl rfl, ⟨by decide, by decide, by decide +kernel⟩⟩
set_option maxRecDepth 20000 in
theorem f_Tape_45 : fN R_Tape "ZoneClock" 45 "ZoneClock$Zone" 2 R_Zone T_Zone 4 2 := ⟨rfl, by decide, in_Zone, tb_mem (N := 78) rfl rfl, rfl⟩
set_option maxRecDepth 20000 in
theorem k_Tape_49 : kV R_Tape 49 y_Tape_readRule c_Tape_readRule 2 none 1 := ⟨tb_mem (N := 254) rfl rfl, tb_mem (N := 256) rfl rfl, tb_sel (N := 8) rfl rfl, tb_mem (N := 2) rfl rfl, tb_mem (N := 257) rfl rfl, ⟨by decide, by decide, by decide +kernel⟩⟩
set_option maxRecDepth 20000 in
theorem f_Tape_53 : fN R_Tape "ZoneClock" 53 "ZoneClock$Zone" 2 R_Zone T_Zone 4 3 := ⟨rfl, by decide, in_Zone, tb_mem (N := 80) rfl rfl, rfl⟩
set_option maxRecDepth 20000 in
theorem k_Tape_56 : kV R_Tape 56 y_Tape_nextByte c_Tape_nextByte 1 (some .int) 0 := ⟨tb_mem (N := 227) rfl rfl, tb_mem (N := 229) rfl rfl, tb_sel (N := 3) rfl rfl, tb_mem (N := 2) rfl rfl, tb_mem (N := 230) rfl rfl, ⟨by decide, by decide, by decide +kernel⟩⟩
set_option maxRecDepth 20000 in
theorem k_Tape_59 : kV R_Tape 59 y_Tape_readByte c_Tape_readByte 2 none 1 := ⟨tb_mem (N := 231) rfl rfl, tb_mem (N := 233) rfl rfl, tb_sel (N := 4) rfl rfl, tb_mem (N := 2) rfl rfl, tb_mem (N := 234) rfl rfl, ⟨by decide, by decide, by decide +kernel⟩⟩
set_option maxRecDepth 20000 in
theorem k_Tape_77 : kV R_Tape 77 y_Tape_readDigits c_Tape_readDigits 3 (some .int) 0 := ⟨tb_mem (N := 239) rfl rfl, tb_mem (N := 241) rfl rfl, tb_sel (N := 6) rfl rfl, tb_mem (N := 2) rfl rfl, tb_mem (N := 242) rfl rfl, ⟨by decide, by decide, by decide +kernel⟩⟩
set_option maxRecDepth 20000 in
theorem k_Tape_80 : kS R_Tape 80 y_Tape_isDigit c_Tape_isDigit 1 (some .boolean) 1 := ⟨tb_mem (N := 243) rfl rfl, tb_mem (N := 244) rfl rfl, tb_mem (N := 2) rfl rfl, tb_mem (N := 245) rfl rfl, ⟨by decide, by decide, by decide +kernel⟩⟩
set_option maxRecDepth 20000 in
theorem kc_Tape_84 : Cond.constant R_Tape 84 (iI (100000)) ∈ tbg := tb_mem (N := 246) rfl rfl
set_option maxRecDepth 20000 in
theorem k_Tape_85 : kS R_Tape 85 y_Math_minI c_Math_minI 2 (some .int) 2 := ⟨tb_mem (N := 247) rfl rfl, tb_mem (N := 248) rfl rfl, tb_mem (N := 11) rfl rfl, tb_mem (N := 249) rfl rfl, ⟨by decide, by decide, by decide +kernel⟩⟩
set_option maxRecDepth 20000 in
theorem f_Tape_63 : fN R_Tape "ZoneClock" 63 "ZoneClock$Rule" 0 R_Rule T_Rule 4 0 := ⟨rfl, by decide, in_Rule, tb_mem (N := 57) rfl rfl, rfl⟩
set_option maxRecDepth 20000 in
theorem f_Tape_68 : fN R_Tape "ZoneClock" 68 "ZoneClock$Rule" 0 R_Rule T_Rule 4 1 := ⟨rfl, by decide, in_Rule, tb_mem (N := 59) rfl rfl, rfl⟩
set_option maxRecDepth 20000 in
theorem f_Tape_71 : fN R_Tape "ZoneClock" 71 "ZoneClock$Rule" 0 R_Rule T_Rule 4 2 := ⟨rfl, by decide, in_Rule, tb_mem (N := 61) rfl rfl, rfl⟩
set_option maxRecDepth 20000 in
theorem f_Tape_74 : fN R_Tape "ZoneClock" 74 "ZoneClock$Rule" 0 R_Rule T_Rule 4 3 := ⟨rfl, by decide, in_Rule, tb_mem (N := 63) rfl rfl, rfl⟩
set_option maxRecDepth 20000 in
theorem f_Zone_21 : fG R_Zone 21 "ZoneClock$Zone" 2 R_Zone T_Zone 4 0 := ⟨rfl, by decide, in_Zone, tb_mem (N := 73) rfl rfl, rfl⟩
set_option maxRecDepth 20000 in
theorem f_Zone_25 : fG R_Zone 25 "ZoneClock$Zone" 2 R_Zone T_Zone 4 1 := ⟨rfl, by decide, in_Zone, tb_mem (N := 75) rfl rfl, rfl⟩
set_option maxRecDepth 20000 in
theorem k_Zone_28 : kV R_Zone 28 y_Rule_become c_Rule_become 2 none 1 := ⟨tb_mem (N := 277) rfl rfl, tb_mem (N := 278) rfl rfl, tb_mem (N := 279) rfl rfl, tb_mem (N := 4) rfl rfl, tb_mem (N := 280) rfl rfl, ⟨by decide, by decide, by decide +kernel⟩⟩
set_option maxRecDepth 20000 in
theorem f_Rule_9 : fG R_Rule 9 "ZoneClock$Rule" 0 R_Rule T_Rule 4 0 := ⟨rfl, by decide, in_Rule, tb_mem (N := 56) rfl rfl, rfl⟩
set_option maxRecDepth 20000 in
theorem f_Rule_15 : fG R_Rule 15 "ZoneClock$Rule" 0 R_Rule T_Rule 4 1 := ⟨rfl, by decide, in_Rule, tb_mem (N := 58) rfl rfl, rfl⟩
set_option maxRecDepth 20000 in
theorem f_Rule_18 : fG R_Rule 18 "ZoneClock$Rule" 0 R_Rule T_Rule 4 2 := ⟨rfl, by decide, in_Rule, tb_mem (N := 60) rfl rfl, rfl⟩
set_option maxRecDepth 20000 in
theorem f_Rule_21 : fG R_Rule 21 "ZoneClock$Rule" 0 R_Rule T_Rule 4 3 := ⟨rfl, by decide, in_Rule, tb_mem (N := 62) rfl rfl, rfl⟩
set_option maxRecDepth 20000 in
theorem k_Law_27 : kV R_Law 27 y_Clk_local c_Clk_local 5 (some .long) 2 := ⟨tb_mem (N := 284) rfl rfl, tb_mem (N := 285) rfl rfl, tb_mem (N := 286) rfl rfl, tb_mem (N := 1) rfl rfl, tb_mem (N := 287) rfl rfl, ⟨by decide, by decide, by decide +kernel⟩⟩
set_option maxRecDepth 20000 in
theorem k_Clk_59 : kS R_Clk 59 y_Clk_checkTime c_Clk_checkTime 2 none 1 := ⟨tb_mem (N := 288) rfl rfl, tb_mem (N := 289) rfl rfl, tb_mem (N := 1) rfl rfl, tb_mem (N := 290) rfl rfl, ⟨by decide, by decide, by decide +kernel⟩⟩
set_option maxRecDepth 20000 in
theorem k_Clk_63 : kV R_Clk 63 y_Zone_minutesAt c_Zone_minutesAt 3 (some .int) 1 := ⟨tb_mem (N := 292) rfl rfl, tb_mem (N := 293) rfl rfl, tb_mem (N := 294) rfl rfl, tb_mem (N := 3) rfl rfl, tb_mem (N := 295) rfl rfl, ⟨by decide, by decide, by decide +kernel⟩⟩
set_option maxRecDepth 20000 in
theorem kc_Clk_67 : Cond.constantLong R_Clk 67 (lL (60000)) ∈ tbg := tb_mem (N := 340) rfl rfl
set_option maxRecDepth 20000 in
theorem kc_Clk_105 : Cond.constantLong R_Clk 105 (lL (10413791999999)) ∈ tbg := tb_mem (N := 291) rfl rfl
set_option maxRecDepth 20000 in
theorem k_Zone_36 : kV R_Zone 36 y_Zone_isSummer c_Zone_isSummer 3 (some .boolean) 1 := ⟨tb_mem (N := 296) rfl rfl, tb_mem (N := 297) rfl rfl, tb_mem (N := 298) rfl rfl, tb_mem (N := 3) rfl rfl, tb_mem (N := 299) rfl rfl, ⟨by decide, by decide, by decide +kernel⟩⟩
set_option maxRecDepth 20000 in
theorem k_Zone_32 : kV R_Zone 32 y_Rule_lastUpTo c_Rule_lastUpTo 7 (some .long) 2 := ⟨tb_mem (N := 300) rfl rfl, tb_mem (N := 301) rfl rfl, tb_mem (N := 302) rfl rfl, tb_mem (N := 4) rfl rfl, tb_mem (N := 303) rfl rfl, ⟨by decide, by decide, by decide +kernel⟩⟩
set_option maxRecDepth 20000 in
theorem kc_Rule_24 : Cond.constantLong R_Rule 24 (lL (60000)) ∈ tbg := tb_mem (N := 304) rfl rfl
set_option maxRecDepth 20000 in
theorem k_Rule_26 : kS R_Rule 26 y_Cal_dayAt c_Cal_dayAt 2 (some .int) 1 := ⟨tb_mem (N := 305) rfl rfl, tb_mem (N := 306) rfl rfl, tb_mem (N := 13) rfl rfl, tb_mem (N := 307) rfl rfl, ⟨by decide, by decide, by decide +kernel⟩⟩
set_option maxRecDepth 20000 in
theorem k_Rule_32 : kS R_Rule 32 y_Cal_yearOf c_Cal_yearOf 2 (some .int) 1 := ⟨tb_mem (N := 312) rfl rfl, tb_mem (N := 313) rfl rfl, tb_mem (N := 13) rfl rfl, tb_mem (N := 314) rfl rfl, ⟨by decide, by decide, by decide +kernel⟩⟩
set_option maxRecDepth 20000 in
theorem k_Rule_36 : kS R_Rule 36 y_Math_minI c_Math_minI 2 (some .int) 2 := ⟨tb_mem (N := 324) rfl rfl, tb_mem (N := 248) rfl rfl, tb_mem (N := 11) rfl rfl, tb_mem (N := 249) rfl rfl, ⟨by decide, by decide, by decide +kernel⟩⟩
set_option maxRecDepth 20000 in
theorem k_Rule_42 : kV R_Rule 42 y_Rule_momentIn c_Rule_momentIn 5 (some .long) 1 := ⟨tb_mem (N := 325) rfl rfl, tb_mem (N := 327) rfl rfl, tb_sel (N := 9) rfl rfl, tb_mem (N := 4) rfl rfl, tb_mem (N := 328) rfl rfl, ⟨by decide, by decide, by decide +kernel⟩⟩
set_option maxRecDepth 20000 in
theorem kc_Rule_46 : Cond.constantLong R_Rule 46 (lL (-1000000000000000)) ∈ tbg := tb_mem (N := 339) rfl rfl
set_option maxRecDepth 20000 in
theorem kc_Cal_31 : Cond.constantLong R_Cal 31 (lL (86400000)) ∈ tbg := tb_mem (N := 308) rfl rfl
set_option maxRecDepth 20000 in
theorem k_Cal_43 : kS R_Cal 43 y_Math_floorDivJ c_Math_floorDivJ 6 (some .long) 2 := ⟨tb_mem (N := 309) rfl rfl, tb_mem (N := 310) rfl rfl, tb_mem (N := 11) rfl rfl, tb_mem (N := 311) rfl rfl, ⟨by decide, by decide, by decide +kernel⟩⟩
set_option maxRecDepth 20000 in
theorem k_Cal_48 : kS R_Cal 48 y_Math_floorDivI c_Math_floorDivI 3 (some .int) 2 := ⟨tb_mem (N := 315) rfl rfl, tb_mem (N := 316) rfl rfl, tb_mem (N := 11) rfl rfl, tb_mem (N := 317) rfl rfl, ⟨by decide, by decide, by decide +kernel⟩⟩
set_option maxRecDepth 20000 in
theorem k_Cal_37 : kS R_Cal 37 y_Cal_firstDayOf c_Cal_firstDayOf 6 (some .int) 2 := ⟨tb_mem (N := 318) rfl rfl, tb_mem (N := 319) rfl rfl, tb_mem (N := 13) rfl rfl, tb_mem (N := 320) rfl rfl, ⟨by decide, by decide, by decide +kernel⟩⟩
set_option maxRecDepth 20000 in
theorem k_Cal_50 : kS R_Cal 50 y_Cal_lengthOf c_Cal_lengthOf 2 (some .int) 2 := ⟨tb_mem (N := 321) rfl rfl, tb_mem (N := 322) rfl rfl, tb_mem (N := 13) rfl rfl, tb_mem (N := 323) rfl rfl, ⟨by decide, by decide, by decide +kernel⟩⟩
set_option maxRecDepth 20000 in
theorem k_Rule_53 : kS R_Rule 53 y_Cal_firstDayOf c_Cal_firstDayOf 6 (some .int) 2 := ⟨tb_mem (N := 329) rfl rfl, tb_mem (N := 319) rfl rfl, tb_mem (N := 13) rfl rfl, tb_mem (N := 320) rfl rfl, ⟨by decide, by decide, by decide +kernel⟩⟩
set_option maxRecDepth 20000 in
theorem k_Rule_56 : kS R_Rule 56 y_Cal_weekdayOf c_Cal_weekdayOf 1 (some .int) 1 := ⟨tb_mem (N := 330) rfl rfl, tb_mem (N := 331) rfl rfl, tb_mem (N := 13) rfl rfl, tb_mem (N := 332) rfl rfl, ⟨by decide, by decide, by decide +kernel⟩⟩
set_option maxRecDepth 20000 in
theorem k_Rule_59 : kS R_Rule 59 y_Math_floorModI c_Math_floorModI 3 (some .int) 2 := ⟨tb_mem (N := 336) rfl rfl, tb_mem (N := 334) rfl rfl, tb_mem (N := 11) rfl rfl, tb_mem (N := 335) rfl rfl, ⟨by decide, by decide, by decide +kernel⟩⟩
set_option maxRecDepth 20000 in
theorem k_Rule_62 : kS R_Rule 62 y_Cal_lengthOf c_Cal_lengthOf 2 (some .int) 2 := ⟨tb_mem (N := 337) rfl rfl, tb_mem (N := 322) rfl rfl, tb_mem (N := 13) rfl rfl, tb_mem (N := 323) rfl rfl, ⟨by decide, by decide, by decide +kernel⟩⟩
set_option maxRecDepth 20000 in
theorem kc_Rule_65 : Cond.constantLong R_Rule 65 (lL (86400000)) ∈ tbg := tb_mem (N := 338) rfl rfl
set_option maxRecDepth 20000 in
theorem k_Cal_46 : kS R_Cal 46 y_Math_floorModI c_Math_floorModI 3 (some .int) 2 := ⟨tb_mem (N := 333) rfl rfl, tb_mem (N := 334) rfl rfl, tb_mem (N := 11) rfl rfl, tb_mem (N := 335) rfl rfl, ⟨by decide, by decide, by decide +kernel⟩⟩
set_option maxRecDepth 20000 in
theorem k_Law_31 : kV R_Law 31 y_Clk_many c_Clk_many 7 (some .int) 2 := ⟨tb_mem (N := 344) rfl rfl, tb_mem (N := 345) rfl rfl, tb_mem (N := 346) rfl rfl, tb_mem (N := 1) rfl rfl, tb_mem (N := 347) rfl rfl, ⟨by decide, by decide, by decide +kernel⟩⟩
set_option maxRecDepth 20000 in
theorem k_Clk_69 : kV R_Clk 69 y_Zone_isReadInSummer c_Zone_isReadInSummer 3 (some .boolean) 1 := ⟨tb_mem (N := 348) rfl rfl, tb_mem (N := 349) rfl rfl, tb_mem (N := 350) rfl rfl, tb_mem (N := 3) rfl rfl, tb_mem (N := 351) rfl rfl, ⟨by decide, by decide, by decide +kernel⟩⟩
set_option maxRecDepth 20000 in
theorem k_Clk_73 : kV R_Clk 73 y_Zone_isReadOutsideSummer c_Zone_isReadOutsideSummer 3 (some .boolean) 1 := ⟨tb_mem (N := 357) rfl rfl, tb_mem (N := 358) rfl rfl, tb_mem (N := 359) rfl rfl, tb_mem (N := 3) rfl rfl, tb_mem (N := 360) rfl rfl, ⟨by decide, by decide, by decide +kernel⟩⟩
set_option maxRecDepth 20000 in
theorem k_Zone_46 : kV R_Zone 46 y_Zone_fromSummerReading c_Zone_fromSummerReading 3 (some .long) 1 := ⟨tb_mem (N := 352) rfl rfl, tb_mem (N := 353) rfl rfl, tb_mem (N := 354) rfl rfl, tb_mem (N := 3) rfl rfl, tb_mem (N := 355) rfl rfl, ⟨by decide, by decide, by decide +kernel⟩⟩
set_option maxRecDepth 20000 in
theorem kc_Zone_40 : Cond.constantLong R_Zone 40 (lL (60000)) ∈ tbg := tb_mem (N := 356) rfl rfl
set_option maxRecDepth 20000 in
theorem k_Zone_42 : kV R_Zone 42 y_Zone_fromPlainReading c_Zone_fromPlainReading 3 (some .long) 1 := ⟨tb_mem (N := 361) rfl rfl, tb_mem (N := 362) rfl rfl, tb_mem (N := 363) rfl rfl, tb_mem (N := 3) rfl rfl, tb_mem (N := 364) rfl rfl, ⟨by decide, by decide, by decide +kernel⟩⟩
set_option maxRecDepth 20000 in
theorem k_Law_35 : kV R_Law 35 y_Clk_universal c_Clk_universal 9 (some .long) 3 := ⟨tb_mem (N := 369) rfl rfl, tb_mem (N := 370) rfl rfl, tb_mem (N := 371) rfl rfl, tb_mem (N := 1) rfl rfl, tb_mem (N := 372) rfl rfl, ⟨by decide, by decide, by decide +kernel⟩⟩
set_option maxRecDepth 20000 in
theorem k_Clk_79 : kV R_Clk 79 y_Zone_fromSummerReading c_Zone_fromSummerReading 3 (some .long) 1 := ⟨tb_mem (N := 388) rfl rfl, tb_mem (N := 353) rfl rfl, tb_mem (N := 354) rfl rfl, tb_mem (N := 3) rfl rfl, tb_mem (N := 355) rfl rfl, ⟨by decide, by decide, by decide +kernel⟩⟩
set_option maxRecDepth 20000 in
theorem k_Clk_83 : kV R_Clk 83 y_Zone_fromPlainReading c_Zone_fromPlainReading 3 (some .long) 1 := ⟨tb_mem (N := 389) rfl rfl, tb_mem (N := 362) rfl rfl, tb_mem (N := 363) rfl rfl, tb_mem (N := 3) rfl rfl, tb_mem (N := 364) rfl rfl, ⟨by decide, by decide, by decide +kernel⟩⟩
set_option maxRecDepth 20000 in
theorem k_Law_41 : kV R_Law 41 y_Clk_change c_Clk_change 8 (some .long) 3 := ⟨tb_mem (N := 393) rfl rfl, tb_mem (N := 394) rfl rfl, tb_mem (N := 395) rfl rfl, tb_mem (N := 1) rfl rfl, tb_mem (N := 396) rfl rfl, ⟨by decide, by decide, by decide +kernel⟩⟩
set_option maxRecDepth 20000 in
theorem k_Clk_86 : kV R_Clk 86 y_Zone_lastChangeUpTo c_Zone_lastChangeUpTo 3 (some .long) 1 := ⟨tb_mem (N := 397) rfl rfl, tb_mem (N := 398) rfl rfl, tb_mem (N := 399) rfl rfl, tb_mem (N := 3) rfl rfl, tb_mem (N := 400) rfl rfl, ⟨by decide, by decide, by decide +kernel⟩⟩
set_option maxRecDepth 20000 in
theorem k_Clk_89 : kV R_Clk 89 y_Zone_firstChangeBehind c_Zone_firstChangeBehind 3 (some .long) 1 := ⟨tb_mem (N := 405) rfl rfl, tb_mem (N := 406) rfl rfl, tb_mem (N := 407) rfl rfl, tb_mem (N := 3) rfl rfl, tb_mem (N := 408) rfl rfl, ⟨by decide, by decide, by decide +kernel⟩⟩
set_option maxRecDepth 20000 in
theorem kc_Clk_92 : Cond.constantLong R_Clk 92 (lL (1000000000000000)) ∈ tbg := tb_mem (N := 421) rfl rfl
set_option maxRecDepth 20000 in
theorem kc_Clk_94 : Cond.constantLong R_Clk 94 (lL (-1)) ∈ tbg := tb_mem (N := 422) rfl rfl
set_option maxRecDepth 20000 in
theorem kc_Zone_49 : Cond.constantLong R_Zone 49 (lL (-1000000000000000)) ∈ tbg := tb_mem (N := 401) rfl rfl
set_option maxRecDepth 20000 in
theorem k_Zone_51 : kS R_Zone 51 y_Math_maxJ c_Math_maxJ 4 (some .long) 2 := ⟨tb_mem (N := 402) rfl rfl, tb_mem (N := 403) rfl rfl, tb_mem (N := 11) rfl rfl, tb_mem (N := 404) rfl rfl, ⟨by decide, by decide, by decide +kernel⟩⟩
set_option maxRecDepth 20000 in
theorem kc_Zone_57 : Cond.constantLong R_Zone 57 (lL (1000000000000000)) ∈ tbg := tb_mem (N := 409) rfl rfl
set_option maxRecDepth 20000 in
theorem k_Zone_59 : kV R_Zone 59 y_Rule_firstBehind c_Rule_firstBehind 7 (some .long) 2 := ⟨tb_mem (N := 410) rfl rfl, tb_mem (N := 411) rfl rfl, tb_mem (N := 412) rfl rfl, tb_mem (N := 4) rfl rfl, tb_mem (N := 413) rfl rfl, ⟨by decide, by decide, by decide +kernel⟩⟩
set_option maxRecDepth 20000 in
theorem k_Zone_62 : kS R_Zone 62 y_Math_minJ c_Math_minJ 4 (some .long) 2 := ⟨tb_mem (N := 418) rfl rfl, tb_mem (N := 419) rfl rfl, tb_mem (N := 11) rfl rfl, tb_mem (N := 420) rfl rfl, ⟨by decide, by decide, by decide +kernel⟩⟩
set_option maxRecDepth 20000 in
theorem k_Rule_48 : kS R_Rule 48 y_Math_maxI c_Math_maxI 2 (some .int) 2 := ⟨tb_mem (N := 414) rfl rfl, tb_mem (N := 415) rfl rfl, tb_mem (N := 11) rfl rfl, tb_mem (N := 416) rfl rfl, ⟨by decide, by decide, by decide +kernel⟩⟩
set_option maxRecDepth 20000 in
theorem kc_Rule_51 : Cond.constantLong R_Rule 51 (lL (1000000000000000)) ∈ tbg := tb_mem (N := 417) rfl rfl
set_option maxRecDepth 20000 in
theorem k_Law_44 : kV R_Law 44 y_Clk_field c_Clk_field 7 (some .int) 3 := ⟨tb_mem (N := 426) rfl rfl, tb_mem (N := 427) rfl rfl, tb_mem (N := 428) rfl rfl, tb_mem (N := 1) rfl rfl, tb_mem (N := 429) rfl rfl, ⟨by decide, by decide, by decide +kernel⟩⟩
set_option maxRecDepth 20000 in
theorem k_Clk_96 : kV R_Clk 96 y_Zone_isSummer c_Zone_isSummer 3 (some .boolean) 1 := ⟨tb_mem (N := 430) rfl rfl, tb_mem (N := 297) rfl rfl, tb_mem (N := 298) rfl rfl, tb_mem (N := 3) rfl rfl, tb_mem (N := 299) rfl rfl, ⟨by decide, by decide, by decide +kernel⟩⟩
set_option maxRecDepth 20000 in
theorem k_Clk_99 : kS R_Clk 99 y_Cal_partOf c_Cal_partOf 5 (some .int) 2 := ⟨tb_mem (N := 431) rfl rfl, tb_mem (N := 432) rfl rfl, tb_mem (N := 13) rfl rfl, tb_mem (N := 433) rfl rfl, ⟨by decide, by decide, by decide +kernel⟩⟩
set_option maxRecDepth 20000 in
theorem k_Cal_9 : kS R_Cal 9 y_Cal_dayAt c_Cal_dayAt 2 (some .int) 1 := ⟨tb_mem (N := 434) rfl rfl, tb_mem (N := 306) rfl rfl, tb_mem (N := 13) rfl rfl, tb_mem (N := 307) rfl rfl, ⟨by decide, by decide, by decide +kernel⟩⟩
set_option maxRecDepth 20000 in
theorem k_Cal_15 : kS R_Cal 15 y_Cal_yearOf c_Cal_yearOf 2 (some .int) 1 := ⟨tb_mem (N := 435) rfl rfl, tb_mem (N := 313) rfl rfl, tb_mem (N := 13) rfl rfl, tb_mem (N := 314) rfl rfl, ⟨by decide, by decide, by decide +kernel⟩⟩
set_option maxRecDepth 20000 in
theorem kc_Cal_19 : Cond.constantLong R_Cal 19 (lL (60000)) ∈ tbg := tb_mem (N := 436) rfl rfl
set_option maxRecDepth 20000 in
theorem k_Cal_21 : kS R_Cal 21 y_Math_floorModJ c_Math_floorModJ 6 (some .long) 2 := ⟨tb_mem (N := 437) rfl rfl, tb_mem (N := 438) rfl rfl, tb_mem (N := 11) rfl rfl, tb_mem (N := 439) rfl rfl, ⟨by decide, by decide, by decide +kernel⟩⟩
set_option maxRecDepth 20000 in
theorem kc_Cal_27 : Cond.constantLong R_Cal 27 (lL (1000)) ∈ tbg := tb_mem (N := 440) rfl rfl
set_option maxRecDepth 20000 in
theorem kc_Cal_29 : Cond.constantLong R_Cal 29 (lL (3600000)) ∈ tbg := tb_mem (N := 441) rfl rfl
set_option maxRecDepth 20000 in
theorem k_Cal_33 : kS R_Cal 33 y_Cal_monthOf c_Cal_monthOf 3 (some .int) 2 := ⟨tb_mem (N := 442) rfl rfl, tb_mem (N := 443) rfl rfl, tb_mem (N := 13) rfl rfl, tb_mem (N := 444) rfl rfl, ⟨by decide, by decide, by decide +kernel⟩⟩
set_option maxRecDepth 20000 in
theorem k_Cal_40 : kS R_Cal 40 y_Cal_weekdayOf c_Cal_weekdayOf 1 (some .int) 1 := ⟨tb_mem (N := 445) rfl rfl, tb_mem (N := 331) rfl rfl, tb_mem (N := 13) rfl rfl, tb_mem (N := 332) rfl rfl, ⟨by decide, by decide, by decide +kernel⟩⟩
set_option maxRecDepth 20000 in
theorem f_Ref_7 : fG R_Ref 7 "ZoneClockModel" 4 R_Ref T_Ref 15 1 := ⟨rfl, by decide, in_Ref, tb_mem (N := 457) rfl rfl, rfl⟩
set_option maxRecDepth 20000 in
theorem f_Ref_13 : fG R_Ref 13 "ZoneClockModel" 4 R_Ref T_Ref 15 3 := ⟨rfl, by decide, in_Ref, tb_mem (N := 459) rfl rfl, rfl⟩
set_option maxRecDepth 20000 in
theorem f_Ref_17 : fG R_Ref 17 "ZoneClockModel" 4 R_Ref T_Ref 15 8 := ⟨rfl, by decide, in_Ref, tb_mem (N := 464) rfl rfl, rfl⟩
set_option maxRecDepth 20000 in
theorem f_Ref_21 : fG R_Ref 21 "ZoneClockModel" 4 R_Ref T_Ref 15 9 := ⟨rfl, by decide, in_Ref, tb_mem (N := 465) rfl rfl, rfl⟩
set_option maxRecDepth 20000 in
theorem f_Ref_26 : fG R_Ref 26 "ZoneClockModel" 4 R_Ref T_Ref 15 10 := ⟨rfl, by decide, in_Ref, tb_mem (N := 466) rfl rfl, rfl⟩
set_option maxRecDepth 20000 in
theorem f_Ref_31 : fG R_Ref 31 "ZoneClockModel" 4 R_Ref T_Ref 15 11 := ⟨rfl, by decide, in_Ref, tb_mem (N := 467) rfl rfl, rfl⟩
set_option maxRecDepth 20000 in
theorem f_Ref_34 : fG R_Ref 34 "ZoneClockModel" 4 R_Ref T_Ref 15 12 := ⟨rfl, by decide, in_Ref, tb_mem (N := 468) rfl rfl, rfl⟩
set_option maxRecDepth 20000 in
theorem f_Ref_37 : fG R_Ref 37 "ZoneClockModel" 4 R_Ref T_Ref 15 13 := ⟨rfl, by decide, in_Ref, tb_mem (N := 469) rfl rfl, rfl⟩
set_option maxRecDepth 20000 in
theorem f_Ref_40 : fG R_Ref 40 "ZoneClockModel" 4 R_Ref T_Ref 15 14 := ⟨rfl, by decide, in_Ref, tb_mem (N := 470) rfl rfl, rfl⟩
set_option maxRecDepth 20000 in
theorem f_Ref_44 : fG R_Ref 44 "ZoneClockModel" 4 R_Ref T_Ref 15 0 := ⟨rfl, by decide, in_Ref, tb_mem (N := 456) rfl rfl, rfl⟩
set_option maxRecDepth 20000 in
theorem k_Ref_109 : kV R_Ref 109 y_Ref_readZone c_Ref_readZone 6 none 1 := ⟨tb_mem (N := 514) rfl rfl, tb_mem (N := 516) rfl rfl, tb_sel (N := 10) rfl rfl, tb_mem (N := 5) rfl rfl, tb_mem (N := 517) rfl rfl, ⟨by decide, by decide, by decide +kernel⟩⟩
set_option maxRecDepth 20000 in
theorem f_Ref_81 : fG R_Ref 81 "ZoneClockModel" 4 R_Ref T_Ref 15 2 := ⟨rfl, by decide, in_Ref, tb_mem (N := 458) rfl rfl, rfl⟩
set_option maxRecDepth 20000 in
theorem f_Ref_78 : fG R_Ref 78 "ZoneClockModel" 4 R_Ref T_Ref 15 7 := ⟨rfl, by decide, in_Ref, tb_mem (N := 463) rfl rfl, rfl⟩
set_option maxRecDepth 20000 in
theorem k_Ref_84 : kV R_Ref 84 y_Ref_peek c_Ref_peek 1 (some .int) 0 := ⟨tb_mem (N := 518) rfl rfl, tb_mem (N := 520) rfl rfl, tb_sel (N := 11) rfl rfl, tb_mem (N := 5) rfl rfl, tb_mem (N := 521) rfl rfl, ⟨by decide, by decide, by decide +kernel⟩⟩
set_option maxRecDepth 20000 in
theorem k_Ref_88 : kV R_Ref 88 y_Ref_bad c_Ref_bad 2 none 1 := ⟨tb_mem (N := 522) rfl rfl, tb_mem (N := 524) rfl rfl, tb_sel (N := 12) rfl rfl, tb_mem (N := 5) rfl rfl, tb_mem (N := 525) rfl rfl, ⟨by decide, by decide, by decide +kernel⟩⟩
set_option maxRecDepth 20000 in
theorem k_Ref_102 : kV R_Ref 102 y_Ref_ranged c_Ref_ranged 5 (some .int) 2 := ⟨tb_mem (N := 527) rfl rfl, tb_mem (N := 529) rfl rfl, tb_sel (N := 13) rfl rfl, tb_mem (N := 5) rfl rfl, tb_mem (N := 530) rfl rfl, ⟨by decide, by decide, by decide +kernel⟩⟩
set_option maxRecDepth 20000 in
theorem k_Ref_112 : kV R_Ref 112 y_Ref_blanks c_Ref_blanks 1 none 0 := ⟨tb_mem (N := 536) rfl rfl, tb_mem (N := 538) rfl rfl, tb_sel (N := 14) rfl rfl, tb_mem (N := 5) rfl rfl, tb_mem (N := 539) rfl rfl, ⟨by decide, by decide, by decide +kernel⟩⟩
set_option maxRecDepth 20000 in
theorem k_Ref_115 : kV R_Ref 115 y_Ref_rule c_Ref_rule 2 none 1 := ⟨tb_mem (N := 540) rfl rfl, tb_mem (N := 542) rfl rfl, tb_sel (N := 15) rfl rfl, tb_mem (N := 5) rfl rfl, tb_mem (N := 543) rfl rfl, ⟨by decide, by decide, by decide +kernel⟩⟩
set_option maxRecDepth 20000 in
theorem k_Ref_117 : kV R_Ref 117 y_Ref_ruleDay c_Ref_ruleDay 5 (some .int) 2 := ⟨tb_mem (N := 548) rfl rfl, tb_mem (N := 550) rfl rfl, tb_sel (N := 17) rfl rfl, tb_mem (N := 5) rfl rfl, tb_mem (N := 551) rfl rfl, ⟨by decide, by decide, by decide +kernel⟩⟩
set_option maxRecDepth 20000 in
theorem kc_Ref_120 : Cond.constantLong R_Ref 120 (lL (86400000)) ∈ tbg := tb_mem (N := 565) rfl rfl
set_option maxRecDepth 20000 in
theorem kc_Ref_122 : Cond.constantLong R_Ref 122 (lL (60000)) ∈ tbg := tb_mem (N := 566) rfl rfl
set_option maxRecDepth 20000 in
theorem k_Ref_124 : kV R_Ref 124 y_Ref_event c_Ref_event 6 none 3 := ⟨tb_mem (N := 567) rfl rfl, tb_mem (N := 569) rfl rfl, tb_sel (N := 18) rfl rfl, tb_mem (N := 5) rfl rfl, tb_mem (N := 570) rfl rfl, ⟨by decide, by decide, by decide +kernel⟩⟩
set_option maxRecDepth 20000 in
theorem k_Ref_92 : kS R_Ref 92 y_Ref_digit c_Ref_digit 1 (some .boolean) 1 := ⟨tb_mem (N := 531) rfl rfl, tb_mem (N := 532) rfl rfl, tb_mem (N := 5) rfl rfl, tb_mem (N := 533) rfl rfl, ⟨by decide, by decide, by decide +kernel⟩⟩
set_option maxRecDepth 20000 in
theorem kc_Ref_95 : Cond.constant R_Ref 95 (iI (100000)) ∈ tbg := tb_mem (N := 534) rfl rfl
set_option maxRecDepth 20000 in
theorem k_Ref_96 : kS R_Ref 96 y_Math_minI c_Math_minI 2 (some .int) 2 := ⟨tb_mem (N := 535) rfl rfl, tb_mem (N := 248) rfl rfl, tb_mem (N := 11) rfl rfl, tb_mem (N := 249) rfl rfl, ⟨by decide, by decide, by decide +kernel⟩⟩
set_option maxRecDepth 20000 in
theorem k_Ref_99 : kV R_Ref 99 y_Ref_expect c_Ref_expect 2 none 1 := ⟨tb_mem (N := 544) rfl rfl, tb_mem (N := 546) rfl rfl, tb_sel (N := 16) rfl rfl, tb_mem (N := 5) rfl rfl, tb_mem (N := 547) rfl rfl, ⟨by decide, by decide, by decide +kernel⟩⟩
set_option maxRecDepth 20000 in
theorem k_Ref_63 : kS R_Ref 63 y_Ref_number c_Ref_number 5 (some .int) 2 := ⟨tb_mem (N := 552) rfl rfl, tb_mem (N := 553) rfl rfl, tb_mem (N := 5) rfl rfl, tb_mem (N := 554) rfl rfl, ⟨by decide, by decide, by decide +kernel⟩⟩
set_option maxRecDepth 20000 in
theorem k_Ref_105 : kS R_Ref 105 y_Ref_weekday c_Ref_weekday 1 (some .int) 1 := ⟨tb_mem (N := 561) rfl rfl, tb_mem (N := 562) rfl rfl, tb_mem (N := 5) rfl rfl, tb_mem (N := 563) rfl rfl, ⟨by decide, by decide, by decide +kernel⟩⟩
set_option maxRecDepth 20000 in
theorem k_Ref_72 : kS R_Ref 72 y_Math_floorModI c_Math_floorModI 3 (some .int) 2 := ⟨tb_mem (N := 564) rfl rfl, tb_mem (N := 334) rfl rfl, tb_mem (N := 11) rfl rfl, tb_mem (N := 335) rfl rfl, ⟨by decide, by decide, by decide +kernel⟩⟩
set_option maxRecDepth 20000 in
theorem k_Ref_51 : kS R_Ref 51 y_Ref_length c_Ref_length 2 (some .int) 2 := ⟨tb_mem (N := 555) rfl rfl, tb_mem (N := 556) rfl rfl, tb_mem (N := 5) rfl rfl, tb_mem (N := 557) rfl rfl, ⟨by decide, by decide, by decide +kernel⟩⟩
set_option maxRecDepth 20000 in
theorem k_Ref_47 : kS R_Ref 47 y_Ref_leap c_Ref_leap 1 (some .boolean) 1 := ⟨tb_mem (N := 558) rfl rfl, tb_mem (N := 559) rfl rfl, tb_mem (N := 5) rfl rfl, tb_mem (N := 560) rfl rfl, ⟨by decide, by decide, by decide +kernel⟩⟩
set_option maxRecDepth 20000 in
theorem k_Ref_137 : kV R_Ref 137 y_Ref_out c_Ref_out 4 (some .boolean) 2 := ⟨tb_mem (N := 575) rfl rfl, tb_mem (N := 577) rfl rfl, tb_sel (N := 19) rfl rfl, tb_mem (N := 5) rfl rfl, tb_mem (N := 578) rfl rfl, ⟨by decide, by decide, by decide +kernel⟩⟩
set_option maxRecDepth 20000 in
theorem k_Ref_141 : kV R_Ref 141 y_Ref_fail c_Ref_fail 2 (some .int) 1 := ⟨tb_mem (N := 580) rfl rfl, tb_mem (N := 582) rfl rfl, tb_sel (N := 20) rfl rfl, tb_mem (N := 5) rfl rfl, tb_mem (N := 583) rfl rfl, ⟨by decide, by decide, by decide +kernel⟩⟩
set_option maxRecDepth 20000 in
theorem k_Ref_144 : kV R_Ref 144 y_Ref_localAt c_Ref_localAt 4 (some .long) 2 := ⟨tb_mem (N := 584) rfl rfl, tb_mem (N := 586) rfl rfl, tb_sel (N := 21) rfl rfl, tb_mem (N := 5) rfl rfl, tb_mem (N := 587) rfl rfl, ⟨by decide, by decide, by decide +kernel⟩⟩
set_option maxRecDepth 20000 in
theorem kc_Ref_135 : Cond.constantLong R_Ref 135 (lL (10413791999999)) ∈ tbg := tb_mem (N := 579) rfl rfl
set_option maxRecDepth 20000 in
theorem k_Ref_128 : kV R_Ref 128 y_Ref_passed c_Ref_passed 7 (some .int) 2 := ⟨tb_mem (N := 588) rfl rfl, tb_mem (N := 590) rfl rfl, tb_sel (N := 22) rfl rfl, tb_mem (N := 5) rfl rfl, tb_mem (N := 591) rfl rfl, ⟨by decide, by decide, by decide +kernel⟩⟩
set_option maxRecDepth 20000 in
theorem k_Ref_132 : kV R_Ref 132 y_Ref_minutes c_Ref_minutes 3 (some .int) 2 := ⟨tb_mem (N := 592) rfl rfl, tb_mem (N := 594) rfl rfl, tb_sel (N := 23) rfl rfl, tb_mem (N := 5) rfl rfl, tb_mem (N := 595) rfl rfl, ⟨by decide, by decide, by decide +kernel⟩⟩
set_option maxRecDepth 20000 in
theorem k_Ref_148 : kV R_Ref 148 y_Ref_find c_Ref_find 9 (some .int) 2 := ⟨tb_mem (N := 600) rfl rfl, tb_mem (N := 602) rfl rfl, tb_sel (N := 24) rfl rfl, tb_mem (N := 5) rfl rfl, tb_mem (N := 603) rfl rfl, ⟨by decide, by decide, by decide +kernel⟩⟩
set_option maxRecDepth 20000 in
theorem kc_Ref_151 : Cond.constantLong R_Ref 151 (lL (-1)) ∈ tbg := tb_mem (N := 612) rfl rfl
set_option maxRecDepth 20000 in
theorem kc_Ref_153 : Cond.constantLong R_Ref 153 (lL (1000)) ∈ tbg := tb_mem (N := 617) rfl rfl
set_option maxRecDepth 20000 in
theorem k_Ref_155 : kS R_Ref 155 y_Math_floorDivJ c_Math_floorDivJ 6 (some .long) 2 := ⟨tb_mem (N := 618) rfl rfl, tb_mem (N := 310) rfl rfl, tb_mem (N := 11) rfl rfl, tb_mem (N := 311) rfl rfl, ⟨by decide, by decide, by decide +kernel⟩⟩
set_option maxRecDepth 20000 in
theorem kc_Ref_158 : Cond.constantLong R_Ref 158 (lL (60)) ∈ tbg := tb_mem (N := 619) rfl rfl
set_option maxRecDepth 20000 in
theorem kc_Ref_160 : Cond.constantLong R_Ref 160 (lL (86400)) ∈ tbg := tb_mem (N := 620) rfl rfl
set_option maxRecDepth 20000 in
theorem k_Ref_162 : kS R_Ref 162 y_Math_floorModJ c_Math_floorModJ 6 (some .long) 2 := ⟨tb_mem (N := 621) rfl rfl, tb_mem (N := 438) rfl rfl, tb_mem (N := 11) rfl rfl, tb_mem (N := 439) rfl rfl, ⟨by decide, by decide, by decide +kernel⟩⟩
set_option maxRecDepth 20000 in
theorem k_Ref_164 : kV R_Ref 164 y_Ref_date c_Ref_date 3 none 1 := ⟨tb_mem (N := 622) rfl rfl, tb_mem (N := 624) rfl rfl, tb_sel (N := 25) rfl rfl, tb_mem (N := 5) rfl rfl, tb_mem (N := 625) rfl rfl, ⟨by decide, by decide, by decide +kernel⟩⟩
set_option maxRecDepth 20000 in
theorem f_Ref_69 : fG R_Ref 69 "ZoneClockModel" 4 R_Ref T_Ref 15 6 := ⟨rfl, by decide, in_Ref, tb_mem (N := 462) rfl rfl, rfl⟩
set_option maxRecDepth 20000 in
theorem f_Ref_66 : fG R_Ref 66 "ZoneClockModel" 4 R_Ref T_Ref 15 5 := ⟨rfl, by decide, in_Ref, tb_mem (N := 461) rfl rfl, rfl⟩
set_option maxRecDepth 20000 in
theorem f_Ref_60 : fG R_Ref 60 "ZoneClockModel" 4 R_Ref T_Ref 15 4 := ⟨rfl, by decide, in_Ref, tb_mem (N := 460) rfl rfl, rfl⟩
set_option maxRecDepth 20000 in
theorem k_Ref_167 : kV R_Ref 167 y_Ref_summer c_Ref_summer 3 (some .boolean) 2 := ⟨tb_mem (N := 627) rfl rfl, tb_mem (N := 629) rfl rfl, tb_sel (N := 26) rfl rfl, tb_mem (N := 5) rfl rfl, tb_mem (N := 630) rfl rfl, ⟨by decide, by decide, by decide +kernel⟩⟩
set_option maxRecDepth 20000 in
theorem k_Ref_55 : kS R_Ref 55 y_Math_floorDivI c_Math_floorDivI 3 (some .int) 2 := ⟨tb_mem (N := 626) rfl rfl, tb_mem (N := 316) rfl rfl, tb_mem (N := 11) rfl rfl, tb_mem (N := 317) rfl rfl, ⟨by decide, by decide, by decide +kernel⟩⟩
set_option maxRecDepth 20000 in
theorem k_Law_57 : kV R_Law 57 y_Ref_feed c_Ref_feed 8 (some .int) 5 := ⟨tb_mem (N := 635) rfl rfl, tb_mem (N := 636) rfl rfl, tb_mem (N := 637) rfl rfl, tb_mem (N := 5) rfl rfl, tb_mem (N := 638) rfl rfl, ⟨by decide, by decide, by decide +kernel⟩⟩
set_option maxRecDepth 20000 in
theorem k_Law_58 : kV R_Law 58 y_Ref_thrown c_Ref_thrown 1 (some .int) 0 := ⟨tb_mem (N := 505) rfl rfl, tb_mem (N := 506) rfl rfl, tb_mem (N := 507) rfl rfl, tb_mem (N := 5) rfl rfl, tb_mem (N := 508) rfl rfl, ⟨by decide, by decide, by decide +kernel⟩⟩
set_option maxRecDepth 20000 in
theorem k_Law_65 : kV R_Law 65 y_Ref_end c_Ref_end 2 (some .int) 1 := ⟨tb_mem (N := 639) rfl rfl, tb_mem (N := 640) rfl rfl, tb_mem (N := 641) rfl rfl, tb_mem (N := 5) rfl rfl, tb_mem (N := 642) rfl rfl, ⟨by decide, by decide, by decide +kernel⟩⟩
set_option maxRecDepth 20000 in
theorem kc_Law_70 : Cond.constantLong R_Law 70 (lL (4294967295)) ∈ tbg := tb_mem (N := 643) rfl rfl
set_option maxRecDepth 20000 in
theorem k_Law_75 : kV R_Law 75 y_Ref_local c_Ref_local 4 (some .long) 2 := ⟨tb_mem (N := 571) rfl rfl, tb_mem (N := 572) rfl rfl, tb_mem (N := 573) rfl rfl, tb_mem (N := 5) rfl rfl, tb_mem (N := 574) rfl rfl, ⟨by decide, by decide, by decide +kernel⟩⟩
set_option maxRecDepth 20000 in
theorem k_Law_78 : kV R_Law 78 y_Ref_many c_Ref_many 4 (some .int) 2 := ⟨tb_mem (N := 596) rfl rfl, tb_mem (N := 597) rfl rfl, tb_mem (N := 598) rfl rfl, tb_mem (N := 5) rfl rfl, tb_mem (N := 599) rfl rfl, ⟨by decide, by decide, by decide +kernel⟩⟩
set_option maxRecDepth 20000 in
theorem k_Law_82 : kV R_Law 82 y_Ref_universal c_Ref_universal 6 (some .long) 3 := ⟨tb_mem (N := 604) rfl rfl, tb_mem (N := 605) rfl rfl, tb_mem (N := 606) rfl rfl, tb_mem (N := 5) rfl rfl, tb_mem (N := 607) rfl rfl, ⟨by decide, by decide, by decide +kernel⟩⟩
set_option maxRecDepth 20000 in
theorem k_Law_85 : kV R_Law 85 y_Ref_change c_Ref_change 6 (some .long) 3 := ⟨tb_mem (N := 608) rfl rfl, tb_mem (N := 609) rfl rfl, tb_mem (N := 610) rfl rfl, tb_mem (N := 5) rfl rfl, tb_mem (N := 611) rfl rfl, ⟨by decide, by decide, by decide +kernel⟩⟩
set_option maxRecDepth 20000 in
theorem k_Law_89 : kV R_Law 89 y_Ref_field c_Ref_field 10 (some .int) 3 := ⟨tb_mem (N := 613) rfl rfl, tb_mem (N := 614) rfl rfl, tb_mem (N := 615) rfl rfl, tb_mem (N := 5) rfl rfl, tb_mem (N := 616) rfl rfl, ⟨by decide, by decide, by decide +kernel⟩⟩
set_option maxRecDepth 20000 in
theorem k_Law_90 : kV R_Law 90 y_Clk_place c_Clk_place 1 (some .int) 0 := ⟨tb_mem (N := 104) rfl rfl, tb_mem (N := 105) rfl rfl, tb_mem (N := 106) rfl rfl, tb_mem (N := 1) rfl rfl, tb_mem (N := 107) rfl rfl, ⟨by decide, by decide, by decide +kernel⟩⟩
set_option maxRecDepth 20000 in
theorem k_Law_93 : kV R_Law 93 y_Ref_place c_Ref_place 1 (some .int) 0 := ⟨tb_mem (N := 631) rfl rfl, tb_mem (N := 632) rfl rfl, tb_mem (N := 633) rfl rfl, tb_mem (N := 5) rfl rfl, tb_mem (N := 634) rfl rfl, ⟨by decide, by decide, by decide +kernel⟩⟩
end
section
/-! The Gregorian calendar, a rule's moments, and what lies before and behind a time: mathematics alone. -/
def cLeap (y : Int) : Bool := y % 4 == 0 && (!(y % 100 == 0) || y % 400 == 0)
def cLen (y m : Int) : Int := if m = 2 then (if cLeap y then 29 else 28) else if m = 4 ∨ m = 6 ∨ m = 9 ∨ m = 11 then 30 else 31
def cYear (y : Int) : Int := 365 * (y - 1970) + ((y - 1) / 4 - (y - 1) / 100 + (y - 1) / 400 - 477)
def cFirst (y : Int) : Nat → Int
  | 0 => cYear y
  | k + 1 => cFirst y k + cLen y (k + 1)
/-- the first day of a month -/
def cFD (y m : Int) : Int := cFirst y (m - 1).toNat
theorem cLen_lo (y m : Int) : 28 ≤ cLen y m := by unfold cLen; (repeat' split) <;> omega
theorem cLen_hi (y m : Int) : cLen y m ≤ 31 := by unfold cLen; (repeat' split) <;> omega
theorem cFD_1 (y : Int) : cFD y 1 = cYear y := rfl
theorem cFD_succ (y : Int) {m : Int} (h : 1 ≤ m) : cFD y (m + 1) = cFD y m + cLen y m := by
  obtain ⟨k, rfl⟩ : ∃ k : Nat, m = k + 1 := ⟨(m - 1).toNat, by omega⟩
  unfold cFD
  rw [show ((k : Int) + 1 + 1 - 1).toNat = k + 1 from by omega, show ((k : Int) + 1 - 1).toNat = k from by omega]
  rfl
theorem cYear_succ (y : Int) : cYear (y + 1) = cYear y + 365 + (if cLeap y then 1 else 0) := by
  unfold cYear cLeap
  by_cases h4 : y % 4 = 0 <;> by_cases h1 : y % 100 = 0 <;> by_cases h400 : y % 400 = 0 <;> simp [h4, h1, h400] <;> omega
theorem cFirst_12 (y : Int) : cFirst y 12 = cYear (y + 1) := by
  rw [cYear_succ]
  simp only [cFirst, cLen]
  cases cLeap y <;> simp <;> omega
theorem cFirst_up (y : Int) {j k : Nat} (h : j ≤ k) : cFirst y j + 28 * (k - j : Nat) ≤ cFirst y k := by
  induction k with
  | zero => obtain rfl : j = 0 := by omega
            simp
  | succ k ih =>
    by_cases hj : j = k + 1
    · subst hj; simp
    · have h1 := ih (by omega)
      have h2 := cLen_lo y (k + 1)
      show cFirst y j + 28 * ((k + 1 - j : Nat) : Int) ≤ cFirst y k + cLen y (k + 1)
      omega
/-- a month lies in its year -/
theorem cFD_lo (y : Int) {m : Int} (h1 : 1 ≤ m) : cYear y ≤ cFD y m := by
  have := cFirst_up y (j := 0) (k := (m - 1).toNat) (by omega)
  unfold cFD
  simp only [cFirst] at this
  omega
theorem cFD_hi (y : Int) {m : Int} (h1 : 1 ≤ m) (h2 : m ≤ 12) : cFD y m + cLen y m ≤ cYear (y + 1) := by
  rw [← cFirst_12, ← cFD_succ y h1]
  unfold cFD
  have := cFirst_up y (j := (m + 1 - 1).toNat) (k := 12) (by omega)
  omega
theorem cYear_lo {y : Int} (h1 : 1969 ≤ y) (h2 : y ≤ 2400) : 365 * (y - 1970) ≤ cYear y := by unfold cYear; omega
theorem cYear_hi {y : Int} (h1 : 1900 ≤ y) (h2 : y ≤ 2310) : cYear y ≤ 365 * (y - 1970) + 90 := by unfold cYear; omega
theorem cYear_b {y : Int} (h1 : 1900 ≤ y) (h2 : y ≤ 2400) : -30000 ≤ cYear y ∧ cYear y ≤ 160000 := by unfold cYear; omega
/-- the year of a day -/
def cY (d : Int) : Int := if cYear (1970 + d / 365) > d then 1970 + d / 365 - 1 else 1970 + d / 365
theorem cY_lo {d : Int} (h1 : -365 ≤ d) (h2 : d ≤ 122000) : cYear (cY d) ≤ d := by
  unfold cY
  split
  · have := cYear_hi (y := 1970 + d / 365 - 1) (by omega) (by omega)
    omega
  · omega
theorem cY_hi {d : Int} (h1 : -365 ≤ d) (h2 : d ≤ 122000) : d < cYear (cY d + 1) := by
  unfold cY
  split
  · rw [show 1970 + d / 365 - 1 + 1 = 1970 + d / 365 from by omega]; omega
  · have := cYear_lo (y := 1970 + d / 365 + 1) (by omega) (by omega)
    omega
theorem cY_b {d : Int} (h1 : -365 ≤ d) (h2 : d ≤ 122000) : 1969 ≤ cY d ∧ cY d ≤ 2305 := by
  unfold cY
  split
  · rename_i h
    have := cYear_hi (y := 1970 + d / 365) (by omega) (by omega)
    refine ⟨?_, by omega⟩
    by_cases h3 : d / 365 = -1
    · rw [h3] at h
      have : cYear (1970 + -1) = -365 := by decide
      omega
    · omega
  · omega
theorem cYear_mono {a b : Int} (h : a < b) : cYear a + 365 ≤ cYear b := by
  obtain ⟨k, rfl⟩ : ∃ k : Nat, b = a + 1 + k := ⟨(b - a - 1).toNat, by omega⟩
  clear h
  induction k with
  | zero => have := cYear_succ a; split at this <;> simp <;> omega
  | succ k ih =>
    have := cYear_succ (a + 1 + (k : Int))
    rw [show a + 1 + ((k + 1 : Nat) : Int) = a + 1 + (k : Int) + 1 from by omega]
    split at this <;> omega
theorem cY_unique {d y : Int} (h1 : -365 ≤ d) (h2 : d ≤ 122000) (h3 : cYear y ≤ d) (h4 : d < cYear (y + 1)) : cY d = y := by
  have a := cY_lo h1 h2
  have b := cY_hi h1 h2
  by_cases q1 : cY d < y
  · have := cYear_mono (a := cY d + 1) (b := y)
    by_cases q2 : cY d + 1 = y
    · rw [q2] at b; omega
    · have := this (by omega); omega
  · by_cases q3 : y < cY d
    · have := cYear_mono (a := y + 1) (b := cY d)
      by_cases q2 : y + 1 = cY d
      · rw [q2] at h4; omega
      · have := this (by omega); omega
    · omega
/-- the weekday of a day, 0: Sunday -/
def cWd (d : Int) : Int := (d + 4) % 7
/-- a rule: month, week, weekday (0: Sunday), minute; its day in a year -/
def rK (mo wk wd y : Int) : Int := (wd - cWd (cFD y mo)) % 7 + 7 * (wk - 1)
def rDay (mo wk wd y : Int) : Int := cFD y mo + (if cLen y mo ≤ rK mo wk wd y then rK mo wk wd y - 7 else rK mo wk wd y)
def rMom (mo wk wd mi y : Int) : Int := rDay mo wk wd y * 86400000 + mi * 60000
def rOk (mo wk wd mi : Int) : Prop := 1 ≤ mo ∧ mo ≤ 12 ∧ 1 ≤ wk ∧ wk ≤ 5 ∧ 0 ≤ wd ∧ wd ≤ 6 ∧ 0 ≤ mi ∧ mi ≤ 1439
theorem rDay_lo {mo wk wd mi : Int} (h : rOk mo wk wd mi) (y : Int) : cYear y ≤ rDay mo wk wd y := by
  obtain ⟨h1, h2, h3, h4, h5, h6, h7, h8⟩ := h
  have a := cFD_lo y h1
  have b := cLen_lo y mo
  unfold rDay
  split <;> unfold rK at * <;> omega
theorem rDay_hi {mo wk wd mi : Int} (h : rOk mo wk wd mi) (y : Int) : rDay mo wk wd y < cYear (y + 1) := by
  obtain ⟨h1, h2, h3, h4, h5, h6, h7, h8⟩ := h
  have a := cFD_hi y h1 h2
  have b := cLen_lo y mo
  unfold rDay
  split <;> unfold rK at * <;> omega
theorem rMom_lo {mo wk wd mi : Int} (h : rOk mo wk wd mi) (y : Int) : cYear y * 86400000 ≤ rMom mo wk wd mi y := by
  have a := rDay_lo h y
  obtain ⟨h1, h2, h3, h4, h5, h6, h7, h8⟩ := h
  unfold rMom
  omega
theorem rMom_hi {mo wk wd mi : Int} (h : rOk mo wk wd mi) (y : Int) : rMom mo wk wd mi y < cYear (y + 1) * 86400000 := by
  have a := rDay_hi h y
  obtain ⟨h1, h2, h3, h4, h5, h6, h7, h8⟩ := h
  unfold rMom
  omega
theorem rMom_mono {mo wk wd mi : Int} (h : rOk mo wk wd mi) {a b : Int} (hab : a < b) : rMom mo wk wd mi a < rMom mo wk wd mi b := by
  have h1 := rMom_hi h a
  have h2 := rMom_lo h b
  by_cases q : a + 1 = b
  · rw [q] at h1; omega
  · have := cYear_mono (a := a + 1) (b := b) (by omega)
    omega
/-- the last of a rule's moments not behind t, by the clock that runs sh minutes ahead -/
def rLast (mo wk wd mi t sh : Int) : Int :=
  let ck := t + sh * 60000
  let y := min (cY (ck / 86400000)) 2299
  let z := if rMom mo wk wd mi y > ck then y - 1 else y
  if z < 1970 then -1000000000000000 else rMom mo wk wd mi z - sh * 60000
def rNext (mo wk wd mi t sh : Int) : Int :=
  let ck := t + sh * 60000
  let y := max (cY (ck / 86400000)) 1970
  let z := if rMom mo wk wd mi y ≤ ck then y + 1 else y
  if z > 2299 then 1000000000000000 else rMom mo wk wd mi z - sh * 60000
/-- which moment rLast is -/
theorem rLast_is {mo wk wd mi t sh : Int} (h : rOk mo wk wd mi) (h1 : -31536000000 ≤ t + sh * 60000) (h2 : t + sh * 60000 ≤ 10540000000000) :
    (rLast mo wk wd mi t sh = -1000000000000000 ∧ ∀ y, 1970 ≤ y → y ≤ 2299 → t < rMom mo wk wd mi y - sh * 60000) ∨
    (∃ z, 1970 ≤ z ∧ z ≤ 2299 ∧ rLast mo wk wd mi t sh = rMom mo wk wd mi z - sh * 60000 ∧ rMom mo wk wd mi z - sh * 60000 ≤ t ∧ ∀ y, 1970 ≤ y → y ≤ 2299 → rMom mo wk wd mi y - sh * 60000 ≤ t → y ≤ z) := by
  generalize hck : t + sh * 60000 = ck at h1 h2
  have hd1 : -365 ≤ ck / 86400000 := by omega
  have hd2 : ck / 86400000 ≤ 122000 := by omega
  have a := cY_lo hd1 hd2
  have b := cY_hi hd1 hd2
  have hb := cY_b hd1 hd2
  generalize hY : cY (ck / 86400000) = Y at a b hb
  have up : ∀ y, Y < y → ck < rMom mo wk wd mi y := by
    intro y hy
    have q := rMom_lo h y
    by_cases e : Y + 1 = y
    · rw [e] at b; omega
    · have := cYear_mono (a := Y + 1) (b := y) (by omega); omega
  have dn : ∀ y, y < Y → rMom mo wk wd mi y ≤ ck := by
    intro y hy
    have q := rMom_hi h y
    by_cases e : y + 1 = Y
    · rw [e] at q; omega
    · have := cYear_mono (a := y + 1) (b := Y) (by omega); omega
  unfold rLast
  simp only [hck, hY]
  by_cases c1 : Y ≤ 2299
  · rw [show min Y 2299 = Y from by omega]
    by_cases c2 : rMom mo wk wd mi Y > ck
    · rw [if_pos c2]
      by_cases c3 : Y - 1 < 1970
      · rw [if_pos c3]
        refine Or.inl ⟨rfl, fun y y1 y2 => ?_⟩
        by_cases e : y = Y
        · rw [e]; omega
        · have := up y (by omega); omega
      · rw [if_neg c3]
        refine Or.inr ⟨Y - 1, by omega, by omega, rfl, ?_, fun y y1 y2 y3 => ?_⟩
        · have := dn (Y - 1) (by omega); omega
        · by_cases e : Y ≤ y
          · exfalso
            by_cases e2 : y = Y
            · rw [e2] at y3; omega
            · have := up y (by omega); omega
          · omega
    · rw [if_neg c2]
      by_cases c3 : Y < 1970
      · rw [if_pos c3]
        refine Or.inl ⟨rfl, fun y y1 y2 => ?_⟩
        have := up y (by omega); omega
      · rw [if_neg c3]
        refine Or.inr ⟨Y, by omega, by omega, rfl, by omega, fun y y1 y2 y3 => ?_⟩
        by_cases e : Y < y
        · have := up y e; omega
        · omega
  · rw [show min Y 2299 = 2299 from by omega]
    have := dn 2299 (by omega)
    rw [if_neg (by omega), if_neg (by omega)]
    exact Or.inr ⟨2299, by omega, by omega, rfl, by omega, fun y _ y2 _ => y2⟩
theorem rNext_is {mo wk wd mi t sh : Int} (h : rOk mo wk wd mi) (h1 : -31536000000 ≤ t + sh * 60000) (h2 : t + sh * 60000 ≤ 10540000000000) :
    (rNext mo wk wd mi t sh = 1000000000000000 ∧ ∀ y, 1970 ≤ y → y ≤ 2299 → rMom mo wk wd mi y - sh * 60000 ≤ t) ∨
    (∃ z, 1970 ≤ z ∧ z ≤ 2299 ∧ rNext mo wk wd mi t sh = rMom mo wk wd mi z - sh * 60000 ∧ t < rMom mo wk wd mi z - sh * 60000 ∧ ∀ y, 1970 ≤ y → y ≤ 2299 → t < rMom mo wk wd mi y - sh * 60000 → z ≤ y) := by
  generalize hck : t + sh * 60000 = ck at h1 h2
  have hd1 : -365 ≤ ck / 86400000 := by omega
  have hd2 : ck / 86400000 ≤ 122000 := by omega
  have a := cY_lo hd1 hd2
  have b := cY_hi hd1 hd2
  have hb := cY_b hd1 hd2
  generalize hY : cY (ck / 86400000) = Y at a b hb
  have up : ∀ y, Y < y → ck < rMom mo wk wd mi y := by
    intro y hy
    have q := rMom_lo h y
    by_cases e : Y + 1 = y
    · rw [e] at b; omega
    · have := cYear_mono (a := Y + 1) (b := y) (by omega); omega
  have dn : ∀ y, y < Y → rMom mo wk wd mi y ≤ ck := by
    intro y hy
    have q := rMom_hi h y
    by_cases e : y + 1 = Y
    · rw [e] at q; omega
    · have := cYear_mono (a := y + 1) (b := Y) (by omega); omega
  unfold rNext
  simp only [hck, hY]
  by_cases c1 : 1970 ≤ Y
  · rw [show max Y 1970 = Y from by omega]
    by_cases c2 : rMom mo wk wd mi Y ≤ ck
    · rw [if_pos c2]
      by_cases c3 : Y + 1 > 2299
      · rw [if_pos c3]
        refine Or.inl ⟨rfl, fun y y1 y2 => ?_⟩
        by_cases e : y = Y
        · rw [e]; omega
        · have := dn y (by omega); omega
      · rw [if_neg c3]
        refine Or.inr ⟨Y + 1, by omega, by omega, rfl, ?_, fun y y1 y2 y3 => ?_⟩
        · have := up (Y + 1) (by omega); omega
        · by_cases e : y ≤ Y
          · exfalso
            by_cases e2 : y = Y
            · rw [e2] at y3; omega
            · have := dn y (by omega); omega
          · omega
    · rw [if_neg c2]
      by_cases c3 : Y > 2299
      · rw [if_pos c3]
        refine Or.inl ⟨rfl, fun y y1 y2 => ?_⟩
        have := dn y (by omega); omega
      · rw [if_neg c3]
        refine Or.inr ⟨Y, by omega, by omega, rfl, by omega, fun y y1 y2 y3 => ?_⟩
        by_cases e : y < Y
        · have := dn y e; omega
        · omega
  · rw [show max Y 1970 = 1970 from by omega]
    have := up 1970 (by omega)
    rw [if_neg (by omega), if_neg (by omega)]
    exact Or.inr ⟨1970, by omega, by omega, rfl, by omega, fun y y1 _ _ => y1⟩
end
section
/-! A sorted list of events (begin before end where the times are the same), its making by insertion, and the search in it: mathematics alone. -/
def evS (n : Nat) (E : Nat → Int) (G : Nat → Bool) : Prop := ∀ i j, i < j → j < n → E i < E j ∨ (E i = E j ∧ (G j = true → G i = true))
def evM (n : Nat) (E : Nat → Int) (G : Nat → Bool) (P : Int → Bool → Prop) : Prop := (∀ i, i < n → P (E i) (G i)) ∧ ∀ v b, P v b → ∃ i, i < n ∧ E i = v ∧ G i = b
/-- the entry must give way -/
def evC (v w : Int) (b g : Bool) : Prop := v > w ∨ (v = w ∧ b = true ∧ g = false)
def evIns {α : Type} (F : Nat → α) (k : Nat) (x : α) : Nat → α := fun j => if j < k then F j else if j = k then x else F (j - 1)
theorem evIns_lo {α : Type} {F : Nat → α} {k : Nat} {x : α} {j : Nat} (h : j < k) : evIns F k x j = F j := by simp [evIns, h]
theorem evIns_at {α : Type} {F : Nat → α} {k : Nat} {x : α} : evIns F k x k = x := by simp [evIns]
theorem evIns_hi {α : Type} {F : Nat → α} {k : Nat} {x : α} {j : Nat} (h : k < j) : evIns F k x j = F (j - 1) := by
  simp [evIns, show ¬ j < k from by omega, show ¬ j = k from by omega]
theorem evS_ins {n k : Nat} {E : Nat → Int} {G : Nat → Bool} {w : Int} {b : Bool} (hs : evS n E G) (hk : k ≤ n) (hc : ∀ j, k ≤ j → j < n → evC (E j) w b (G j)) (hx : k = 0 ∨ ¬ evC (E (k - 1)) w b (G (k - 1))) :
    evS (n + 1) (evIns E k w) (evIns G k b) := by
  intro i j hij hj
  have lo : ∀ i, i < k → E i < w ∨ (E i = w ∧ (b = true → G i = true)) := by
    intro i hi
    rcases hx with h0 | hx
    · omega
    · have hx1 : ¬ E (k - 1) > w := fun q => hx (Or.inl q)
      have hx2 : ¬ (E (k - 1) = w ∧ b = true ∧ G (k - 1) = false) := fun q => hx (Or.inr q)
      by_cases e : i = k - 1
      · subst e
        by_cases q : E (k - 1) < w
        · exact Or.inl q
        · refine Or.inr ⟨by omega, fun hb => ?_⟩
          cases hg : G (k - 1) with
          | true => rfl
          | false => exact absurd ⟨by omega, hb, hg⟩ hx2
      · rcases hs i (k - 1) (by omega) (by omega) with q | ⟨q1, q2⟩
        · exact Or.inl (by omega)
        · by_cases q : E (k - 1) < w
          · exact Or.inl (by omega)
          · refine Or.inr ⟨by omega, fun hb => q2 ?_⟩
            cases hg : G (k - 1) with
            | true => rfl
            | false => exact absurd ⟨by omega, hb, hg⟩ hx2
  by_cases h1 : j < k
  · rw [evIns_lo (show i < k by omega), evIns_lo h1, evIns_lo (show i < k by omega), evIns_lo h1]
    exact hs i j hij (by omega)
  · by_cases h2 : j = k
    · subst h2
      rw [evIns_lo hij, evIns_at, evIns_lo hij, evIns_at]
      exact lo i hij
    · rw [evIns_hi (show k < j by omega), evIns_hi (show k < j by omega)]
      have hc1 := hc (j - 1) (by omega) (by omega)
      by_cases h3 : i < k
      · rw [evIns_lo h3, evIns_lo h3]
        exact hs i (j - 1) (by omega) (by omega)
      · by_cases h4 : i = k
        · subst h4
          rw [evIns_at, evIns_at]
          rcases hc1 with q | ⟨q1, q2, q3⟩
          · exact Or.inl (by omega)
          · exact Or.inr ⟨by omega, fun _ => q2⟩
        · rw [evIns_hi (show k < i by omega), evIns_hi (show k < i by omega)]
          exact hs (i - 1) (j - 1) (by omega) (by omega)
theorem evM_ins {n k : Nat} {E : Nat → Int} {G : Nat → Bool} {w : Int} {b : Bool} {P : Int → Bool → Prop} (hm : evM n E G P) (hk : k ≤ n) :
    evM (n + 1) (evIns E k w) (evIns G k b) (fun v c => P v c ∨ (v = w ∧ c = b)) := by
  refine ⟨fun i hi => ?_, fun v c h => ?_⟩
  · by_cases h1 : i < k
    · rw [evIns_lo h1, evIns_lo h1]; exact Or.inl (hm.1 i (by omega))
    · by_cases h2 : i = k
      · subst h2; rw [evIns_at, evIns_at]; exact Or.inr ⟨rfl, rfl⟩
      · rw [evIns_hi (show k < i by omega), evIns_hi (show k < i by omega)]; exact Or.inl (hm.1 (i - 1) (by omega))
  · rcases h with h | ⟨h1, h2⟩
    · obtain ⟨i, hi, e1, e2⟩ := hm.2 v c h
      by_cases q : i < k
      · exact ⟨i, by omega, by rw [evIns_lo q]; exact e1, by rw [evIns_lo q]; exact e2⟩
      · exact ⟨i + 1, by omega, by rw [evIns_hi (show k < i + 1 by omega)]; exact e1, by rw [evIns_hi (show k < i + 1 by omega)]; exact e2⟩
    · exact ⟨k, by omega, by rw [evIns_at, h1], by rw [evIns_at, h2]⟩
/-- how many events have passed -/
def evK (E : Nat → Int) (t : Int) : Nat → Nat
  | 0 => 0
  | n + 1 => if E n ≤ t then n + 1 else evK E t n
theorem evK_le (E : Nat → Int) (t : Int) : ∀ n, evK E t n ≤ n
  | 0 => Nat.le_refl 0
  | n + 1 => by
    unfold evK
    split
    · exact Nat.le_refl _
    · exact Nat.le_succ_of_le (evK_le E t n)
theorem evK_of {E : Nat → Int} {t : Int} : ∀ {n k : Nat}, k ≤ n → (∀ i, i < k → E i ≤ t) → (∀ i, k ≤ i → i < n → t < E i) → evK E t n = k
  | 0, k, h, _, _ => by simp [evK]; omega
  | n + 1, k, h, h1, h2 => by
    unfold evK
    split
    · rename_i q
      by_cases e : k = n + 1
      · exact e.symm
      · have := h2 n (by omega) (by omega); omega
    · rename_i q
      by_cases e : k = n + 1
      · have := h1 n (by omega); omega
      · exact evK_of (by omega) h1 (fun i a b => h2 i a (by omega))
theorem evK_lo {n : Nat} {E : Nat → Int} {G : Nat → Bool} {t : Int} (hs : evS n E G) : ∀ i, i < evK E t n → E i ≤ t := by
  induction n with
  | zero => intro i hi; simp [evK] at hi
  | succ n ih =>
    intro i hi
    unfold evK at hi
    split at hi
    · rename_i q
      by_cases e : i = n
      · rw [e]; exact q
      · rcases hs i n (by omega) (by omega) with h | ⟨h, -⟩ <;> omega
    · exact ih (fun a b c d => hs a b c (by omega)) i hi
theorem evK_hi {n : Nat} {E : Nat → Int} {t : Int} : ∀ i, evK E t n ≤ i → i < n → t < E i := by
  induction n with
  | zero => intro i _ hi; omega
  | succ n ih =>
    intro i h1 hi
    unfold evK at h1
    split at h1
    · omega
    · rename_i q
      by_cases e : i = n
      · rw [e]; omega
      · exact ih i h1 (by omega)
/-- the events of two rows of times -/
def evP (lo hi : Int) (Bv Ev : Int → Int) (v : Int) (b : Bool) : Prop := ∃ y, lo ≤ y ∧ y ≤ hi ∧ ((b = true ∧ v = Bv y) ∨ (b = false ∧ v = Ev y))
def evL (lo hi X t : Int) (Bv : Int → Int) (lb : Int) : Prop := (lb = -X ∧ ∀ y, lo ≤ y → y ≤ hi → t < Bv y) ∨ (∃ z, lo ≤ z ∧ z ≤ hi ∧ lb = Bv z ∧ Bv z ≤ t ∧ ∀ y, lo ≤ y → y ≤ hi → Bv y ≤ t → Bv y ≤ Bv z)
def evN (lo hi X t : Int) (Bv : Int → Int) (nb : Int) : Prop := (nb = X ∧ ∀ y, lo ≤ y → y ≤ hi → Bv y ≤ t) ∨ (∃ z, lo ≤ z ∧ z ≤ hi ∧ nb = Bv z ∧ t < Bv z ∧ ∀ y, lo ≤ y → y ≤ hi → t < Bv y → Bv z ≤ Bv y)
section EV
variable {n : Nat} {E : Nat → Int} {G : Nat → Bool} {lo hi X t lb le nb ne : Int} {Bv Ev : Int → Int}
theorem ev_last (hs : evS n E G) (hm : evM n E G (evP lo hi Bv Ev)) (hX1 : ∀ y, lo ≤ y → y ≤ hi → -X < Bv y) (hX2 : ∀ y, lo ≤ y → y ≤ hi → -X < Ev y) (hb : evL lo hi X t Bv lb) (he : evL lo hi X t Ev le) :
    (evK E t n = 0 ∧ lb = -X ∧ le = -X) ∨ (0 < evK E t n ∧ evK E t n - 1 < n ∧ max lb le = E (evK E t n - 1) ∧ (G (evK E t n - 1) = true ↔ le < lb)) := by
  have klo := evK_lo (t := t) hs
  have khi := evK_hi (n := n) (E := E) (t := t)
  have kle := evK_le E t n
  generalize hk : evK E t n = k at klo khi kle
  by_cases h0 : k = 0
  · refine Or.inl ⟨h0, ?_, ?_⟩
    · rcases hb with ⟨h, -⟩ | ⟨z, z1, z2, z3, z4, -⟩
      · exact h
      · obtain ⟨i, i1, i2, -⟩ := hm.2 (Bv z) true ⟨z, z1, z2, Or.inl ⟨rfl, rfl⟩⟩
        have := khi i (by omega) i1; omega
    · rcases he with ⟨h, -⟩ | ⟨z, z1, z2, z3, z4, -⟩
      · exact h
      · obtain ⟨i, i1, i2, -⟩ := hm.2 (Ev z) false ⟨z, z1, z2, Or.inr ⟨rfl, rfl⟩⟩
        have := khi i (by omega) i1; omega
  · refine Or.inr ⟨by omega, by omega, ?_⟩
    have top : ∀ i, i < n → E i ≤ t → E i ≤ E (k - 1) := by
      intro i h1 h2
      by_cases q : k ≤ i
      · have := khi i q h1; omega
      · by_cases e : i = k - 1
        · rw [e]; omega
        · rcases hs i (k - 1) (by omega) (by omega) with h | ⟨h, -⟩ <;> omega
    have hlast := klo (k - 1) (by omega)
    have lbt : lb ≤ E (k - 1) := by
      rcases hb with ⟨h, -⟩ | ⟨z, z1, z2, z3, z4, -⟩
      · obtain ⟨y, y1, y2, ⟨-, y3⟩ | ⟨-, y3⟩⟩ := hm.1 (k - 1) (by omega)
        · have := hX1 y y1 y2; omega
        · have := hX2 y y1 y2; omega
      · obtain ⟨i, i1, i2, -⟩ := hm.2 (Bv z) true ⟨z, z1, z2, Or.inl ⟨rfl, rfl⟩⟩
        have := top i i1 (by omega); omega
    have let' : le ≤ E (k - 1) := by
      rcases he with ⟨h, -⟩ | ⟨z, z1, z2, z3, z4, -⟩
      · obtain ⟨y, y1, y2, ⟨-, y3⟩ | ⟨-, y3⟩⟩ := hm.1 (k - 1) (by omega)
        · have := hX1 y y1 y2; omega
        · have := hX2 y y1 y2; omega
      · obtain ⟨i, i1, i2, -⟩ := hm.2 (Ev z) false ⟨z, z1, z2, Or.inr ⟨rfl, rfl⟩⟩
        have := top i i1 (by omega); omega
    obtain ⟨y, y1, y2, ⟨g, y3⟩ | ⟨g, y3⟩⟩ := hm.1 (k - 1) (by omega)
    · have hlb : lb = E (k - 1) := by
        rcases hb with ⟨h, q⟩ | ⟨z, z1, z2, z3, z4, z5⟩
        · have := q y y1 y2; omega
        · have := z5 y y1 y2 (by omega); omega
      have hlt : le < lb := by
        rcases he with ⟨h, -⟩ | ⟨z, z1, z2, z3, z4, -⟩
        · have := hX1 y y1 y2; omega
        · obtain ⟨i, i1, i2, i3⟩ := hm.2 (Ev z) false ⟨z, z1, z2, Or.inr ⟨rfl, rfl⟩⟩
          by_cases q : k ≤ i
          · have := khi i q i1; omega
          · by_cases e : i = k - 1
            · rw [e, g] at i3; cases i3
            · rcases hs i (k - 1) (by omega) (by omega) with h | ⟨h, h2⟩
              · omega
              · rw [h2 g] at i3; cases i3
      exact ⟨by omega, by simp [g, hlt]⟩
    · have hle : le = E (k - 1) := by
        rcases he with ⟨h, q⟩ | ⟨z, z1, z2, z3, z4, z5⟩
        · have := q y y1 y2; omega
        · have := z5 y y1 y2 (by omega); omega
      exact ⟨by omega, by simp [g]; omega⟩
theorem ev_next (hs : evS n E G) (hm : evM n E G (evP lo hi Bv Ev)) (hX1 : ∀ y, lo ≤ y → y ≤ hi → Bv y < X) (hX2 : ∀ y, lo ≤ y → y ≤ hi → Ev y < X) (hb : evN lo hi X t Bv nb) (he : evN lo hi X t Ev ne) :
    (evK E t n = n ∧ min nb ne = X) ∨ (evK E t n < n ∧ min nb ne = E (evK E t n) ∧ min nb ne < X ∧ t < min nb ne) := by
  have klo := evK_lo (t := t) hs
  have khi := evK_hi (n := n) (E := E) (t := t)
  have kle := evK_le E t n
  generalize hk : evK E t n = k at klo khi kle
  by_cases h0 : k = n
  · refine Or.inl ⟨h0, ?_⟩
    have a : nb = X := by
      rcases hb with ⟨h, -⟩ | ⟨z, z1, z2, z3, z4, -⟩
      · exact h
      · obtain ⟨i, i1, i2, -⟩ := hm.2 (Bv z) true ⟨z, z1, z2, Or.inl ⟨rfl, rfl⟩⟩
        have := klo i (by omega); omega
    have b : ne = X := by
      rcases he with ⟨h, -⟩ | ⟨z, z1, z2, z3, z4, -⟩
      · exact h
      · obtain ⟨i, i1, i2, -⟩ := hm.2 (Ev z) false ⟨z, z1, z2, Or.inr ⟨rfl, rfl⟩⟩
        have := klo i (by omega); omega
    omega
  · refine Or.inr ⟨by omega, ?_⟩
    have bot : ∀ i, i < n → t < E i → E k ≤ E i := by
      intro i h1 h2
      by_cases q : i < k
      · have := klo i q; omega
      · by_cases e : i = k
        · rw [e]; omega
        · rcases hs k i (by omega) (by omega) with h | ⟨h, -⟩ <;> omega
    have hfirst := khi k (by omega) (by omega)
    have nbt : E k ≤ nb := by
      rcases hb with ⟨h, -⟩ | ⟨z, z1, z2, z3, z4, -⟩
      · obtain ⟨y, y1, y2, ⟨-, y3⟩ | ⟨-, y3⟩⟩ := hm.1 k (by omega)
        · have := hX1 y y1 y2; omega
        · have := hX2 y y1 y2; omega
      · obtain ⟨i, i1, i2, -⟩ := hm.2 (Bv z) true ⟨z, z1, z2, Or.inl ⟨rfl, rfl⟩⟩
        have := bot i i1 (by omega); omega
    have net : E k ≤ ne := by
      rcases he with ⟨h, -⟩ | ⟨z, z1, z2, z3, z4, -⟩
      · obtain ⟨y, y1, y2, ⟨-, y3⟩ | ⟨-, y3⟩⟩ := hm.1 k (by omega)
        · have := hX1 y y1 y2; omega
        · have := hX2 y y1 y2; omega
      · obtain ⟨i, i1, i2, -⟩ := hm.2 (Ev z) false ⟨z, z1, z2, Or.inr ⟨rfl, rfl⟩⟩
        have := bot i i1 (by omega); omega
    obtain ⟨y, y1, y2, ⟨g, y3⟩ | ⟨g, y3⟩⟩ := hm.1 k (by omega)
    · have e1 : nb = E k := by
        rcases hb with ⟨h, q⟩ | ⟨z, z1, z2, z3, z4, z5⟩
        · have := q y y1 y2; omega
        · have := z5 y y1 y2 (by omega); omega
      have := hX1 y y1 y2
      omega
    · have e1 : ne = E k := by
        rcases he with ⟨h, q⟩ | ⟨z, z1, z2, z3, z4, z5⟩
        · have := q y y1 y2; omega
        · have := z5 y y1 y2 (by omega); omega
      have := hX2 y y1 y2
      omega
end EV
/-- rLast and rNext in these words -/
theorem rLast_evL {mo wk wd mi t sh : Int} (h : rOk mo wk wd mi) (h1 : -31536000000 ≤ t + sh * 60000) (h2 : t + sh * 60000 ≤ 10540000000000) :
    evL 1970 2299 1000000000000000 t (fun y => rMom mo wk wd mi y - sh * 60000) (rLast mo wk wd mi t sh) := by
  rcases rLast_is h h1 h2 with ⟨a, b⟩ | ⟨z, a, b, c, d, f⟩
  · exact Or.inl ⟨a, b⟩
  · refine Or.inr ⟨z, a, b, c, d, fun y y1 y2 y3 => ?_⟩
    have := f y y1 y2 y3
    by_cases e : y = z
    · rw [e]; exact Int.le_refl _
    · have := rMom_mono h (a := y) (b := z) (by omega)
      show rMom mo wk wd mi y - sh * 60000 ≤ rMom mo wk wd mi z - sh * 60000
      omega
theorem rNext_evN {mo wk wd mi t sh : Int} (h : rOk mo wk wd mi) (h1 : -31536000000 ≤ t + sh * 60000) (h2 : t + sh * 60000 ≤ 10540000000000) :
    evN 1970 2299 1000000000000000 t (fun y => rMom mo wk wd mi y - sh * 60000) (rNext mo wk wd mi t sh) := by
  rcases rNext_is h h1 h2 with ⟨a, b⟩ | ⟨z, a, b, c, d, f⟩
  · exact Or.inl ⟨a, b⟩
  · refine Or.inr ⟨z, a, b, c, d, fun y y1 y2 y3 => ?_⟩
    have := f y y1 y2 y3
    by_cases e : y = z
    · rw [e]; exact Int.le_refl _
    · have := rMom_mono h (a := z) (b := y) (by omega)
      show rMom mo wk wd mi z - sh * 60000 ≤ rMom mo wk wd mi y - sh * 60000
      omega
theorem rMom_bd {mo wk wd mi y : Int} (h : rOk mo wk wd mi) (h1 : 1960 ≤ y) (h2 : y ≤ 2310) : -400000000000 ≤ rMom mo wk wd mi y ∧ rMom mo wk wd mi y ≤ 20000000000000 := by
  have a := rMom_lo h y
  have b := rMom_hi h y
  have c := cYear_b (y := y) (by omega) (by omega)
  have d := cYear_b (y := y + 1) (by omega) (by omega)
  unfold cYear at *
  omega
end
section
/-! The reading of a zone's text: mathematics alone. f: the bytes as they lie in the array, n: how many count. A state: the place, and whether the text is broken there. -/
def tv (x : Int32) : Int := (x &&& 255).toInt
theorem tv_i (x : Int32) : x &&& 255 = iI (tv x) := (iI_of _).symm
theorem tv_b (x : Int32) : 0 ≤ tv x ∧ tv x ≤ 255 := by
  obtain ⟨j, hj, e⟩ := pk_andE x (m := 255) 8 (by decide)
  unfold tv
  rw [e, nI_toInt (by omega)]
  omega
def zPk (n : Nat) (f : Nat → Int32) (i : Nat) : Int := if i < n then tv (f i) else -1
theorem zPk_b (n : Nat) (f : Nat → Int32) (i : Nat) : -1 ≤ zPk n f i ∧ zPk n f i ≤ 255 := by
  have := tv_b (f i)
  unfold zPk
  split <;> omega
def zDig (x : Int) : Prop := 48 ≤ x ∧ x ≤ 57
def zByte (n : Nat) (f : Nat → Int32) (c : Int) (z : Nat × Bool) : Nat × Bool := if z.2 then z else if zPk n f z.1 = c then (z.1 + 1, false) else (z.1, true)
/-- over the blanks: u bytes are left -/
def zSkip (f : Nat → Int32) : Nat → Nat → Nat
  | 0, i => i
  | u + 1, i => if tv (f i) = 32 then zSkip f u (i + 1) else i
def zBl (n : Nat) (f : Nat → Int32) (z : Nat × Bool) : Nat × Bool := if z.2 then z else if zPk n f z.1 = 32 then (zSkip f (n - (z.1 + 1)) (z.1 + 1), false) else (z.1, true)
/-- over the digits -/
def zRun (f : Nat → Int32) : Nat → Nat → Int → Int × Nat
  | 0, i, v => (v, i)
  | u + 1, i, v => if 48 ≤ tv (f i) ∧ tv (f i) ≤ 57 then zRun f u (i + 1) (min (v * 10 + tv (f i) - 48) 100000) else (v, i)
/-- the number at a place: -1 where there is no digit -/
def zDg (n : Nat) (f : Nat → Int32) (i : Nat) : Int × Nat :=
  if 48 ≤ zPk n f i ∧ zPk n f i ≤ 57 then (if zPk n f i = 48 then (0, i + 1) else zRun f (n - (i + 1)) (i + 1) (zPk n f i - 48)) else (-1, i)
def zNum (n : Nat) (f : Nat → Int32) (lo hi : Int) (z : Nat × Bool) : Int × (Nat × Bool) :=
  if z.2 then (0, z) else if (zDg n f z.1).1 < lo ∨ hi < (zDg n f z.1).1 then ((zDg n f z.1).1, (z.1, true)) else ((zDg n f z.1).1, ((zDg n f z.1).2, false))
/-- what is read of a rule, and the state behind it -/
def zRu (n : Nat) (f : Nat → Int32) (z : Nat × Bool) : (Int × Int × Int × Int) × (Nat × Bool) :=
  let a1 := zByte n f 77 z
  let b1 := zNum n f 1 12 a1
  let a2 := zByte n f 46 b1.2
  let b2 := zNum n f 1 5 a2
  let a3 := zByte n f 46 b2.2
  let b3 := zNum n f 0 6 a3
  let a4 := zByte n f 47 b3.2
  let b4 := zNum n f 0 1439 a4
  ((b1.1, b2.1, b3.1, b4.1), b4.2)
theorem zByte_brk (n : Nat) (f : Nat → Int32) (c : Int) {z : Nat × Bool} (h : z.2 = true) : zByte n f c z = z := by simp [zByte, h]
theorem zBl_brk (n : Nat) (f : Nat → Int32) {z : Nat × Bool} (h : z.2 = true) : zBl n f z = z := by simp [zBl, h]
theorem zNum_brk (n : Nat) (f : Nat → Int32) (lo hi : Int) {z : Nat × Bool} (h : z.2 = true) : zNum n f lo hi z = (0, z) := by simp [zNum, h]
theorem zRu_brk (n : Nat) (f : Nat → Int32) {z : Nat × Bool} (h : z.2 = true) : zRu n f z = ((0, 0, 0, 0), z) := by
  simp [zRu, zByte_brk n f _ h, zNum_brk n f _ _ h]
theorem zSkip_b (f : Nat → Int32) : ∀ u i, i ≤ zSkip f u i ∧ zSkip f u i ≤ i + u
  | 0, i => by simp [zSkip]
  | u + 1, i => by
    have := zSkip_b f u (i + 1)
    unfold zSkip
    split <;> omega
theorem zRun_b (f : Nat → Int32) : ∀ u i v, 0 ≤ v → v ≤ 100000 → i ≤ (zRun f u i v).2 ∧ (zRun f u i v).2 ≤ i + u ∧ 0 ≤ (zRun f u i v).1 ∧ (zRun f u i v).1 ≤ 100000
  | 0, i, v, h1, h2 => by simp [zRun]; omega
  | u + 1, i, v, h1, h2 => by
    have b := tv_b (f i)
    unfold zRun
    split
    · have := zRun_b f u (i + 1) (min (v * 10 + tv (f i) - 48) 100000) (by omega) (by omega)
      omega
    · simp; omega
theorem zDg_b {n : Nat} {f : Nat → Int32} {i : Nat} (h : i ≤ n) : i ≤ (zDg n f i).2 ∧ (zDg n f i).2 ≤ n ∧ -1 ≤ (zDg n f i).1 ∧ (zDg n f i).1 ≤ 100000 := by
  unfold zDg
  split
  · rename_i q
    have hi : i < n := by
      unfold zPk at q
      split at q <;> omega
    split
    · simp; omega
    · have := zRun_b f (n - (i + 1)) (i + 1) (zPk n f i - 48) (by omega) (by omega)
      omega
  · simp; omega
theorem zByte_b {n : Nat} {f : Nat → Int32} {c : Int} {z : Nat × Bool} (hc : 0 ≤ c) (h : z.1 ≤ n) : z.1 ≤ (zByte n f c z).1 ∧ (zByte n f c z).1 ≤ n := by
  unfold zByte
  split
  · exact ⟨Nat.le_refl _, h⟩
  · split
    · rename_i q
      have hi : z.1 < n := by
        unfold zPk at q
        split at q <;> omega
      exact ⟨Nat.le_succ _, hi⟩
    · exact ⟨Nat.le_refl _, h⟩
theorem zBl_b {n : Nat} {f : Nat → Int32} {z : Nat × Bool} (h : z.1 ≤ n) : z.1 ≤ (zBl n f z).1 ∧ (zBl n f z).1 ≤ n := by
  unfold zBl
  split
  · exact ⟨Nat.le_refl _, h⟩
  · split
    · rename_i q
      have hi : z.1 < n := by
        unfold zPk at q
        split at q <;> omega
      have := zSkip_b f (n - (z.1 + 1)) (z.1 + 1)
      show z.1 ≤ zSkip f (n - (z.1 + 1)) (z.1 + 1) ∧ zSkip f (n - (z.1 + 1)) (z.1 + 1) ≤ n
      omega
    · exact ⟨Nat.le_refl _, h⟩
theorem zNum_b {n : Nat} {f : Nat → Int32} {lo hi : Int} {z : Nat × Bool} (h : z.1 ≤ n) : z.1 ≤ (zNum n f lo hi z).2.1 ∧ (zNum n f lo hi z).2.1 ≤ n ∧ -1 ≤ (zNum n f lo hi z).1 ∧ (zNum n f lo hi z).1 ≤ 100000 := by
  have := zDg_b (f := f) h
  unfold zNum
  split
  · simp; omega
  · split
    · exact ⟨Nat.le_refl _, h, this.2.2⟩
    · exact ⟨this.1, this.2.1, this.2.2⟩
theorem zNum_ok {n : Nat} {f : Nat → Int32} {lo hi : Int} {z : Nat × Bool} (h : (zNum n f lo hi z).2.2 = false) : z.2 = false ∧ lo ≤ (zNum n f lo hi z).1 ∧ (zNum n f lo hi z).1 ≤ hi := by
  unfold zNum at *
  split at h
  · rename_i q; simp [q] at h
  · rename_i q
    split at h
    · simp at h
    · rename_i q2
      simp only [q, q2]
      refine ⟨by simpa using q, ?_⟩
      simp
      omega
theorem zByte_ok {n : Nat} {f : Nat → Int32} {c : Int} {z : Nat × Bool} (h : (zByte n f c z).2 = false) : z.2 = false := by
  cases hz : z.2 with
  | false => rfl
  | true => rw [zByte_brk n f c hz, hz] at h; cases h
theorem zBl_ok {n : Nat} {f : Nat → Int32} {z : Nat × Bool} (h : (zBl n f z).2 = false) : z.2 = false := by
  cases hz : z.2 with
  | false => rfl
  | true => rw [zBl_brk n f hz, hz] at h; cases h
theorem zRu_ok {n : Nat} {f : Nat → Int32} {z : Nat × Bool} (h : (zRu n f z).2.2 = false) : z.2 = false ∧ rOk (zRu n f z).1.1 (zRu n f z).1.2.1 (zRu n f z).1.2.2.1 (zRu n f z).1.2.2.2 := by
  unfold zRu at *
  simp only at *
  obtain ⟨h1, h2, h3⟩ := zNum_ok h
  obtain ⟨h4, h5, h6⟩ := zNum_ok (zByte_ok h1)
  obtain ⟨h7, h8, h9⟩ := zNum_ok (zByte_ok h4)
  obtain ⟨g1, g2, g3⟩ := zNum_ok (zByte_ok h7)
  exact ⟨zByte_ok g1, g2, g3, h8, h9, h5, h6, h2, h3⟩
/-- a whole text: the state behind the offset; its value; the state behind all; the save; the rules -/
def zS2 (n : Nat) (f : Nat → Int32) : Int × (Nat × Bool) := zNum n f 0 840 (zByte n f (if zPk n f 0 = 45 then 45 else 43) (0, false))
def zOff (n : Nat) (f : Nat → Int32) : Int := if zPk n f 0 = 45 then -(zS2 n f).1 else (zS2 n f).1
def zS4 (n : Nat) (f : Nat → Int32) : Int × (Nat × Bool) := zNum n f 1 120 (zBl n f (zS2 n f).2)
def zR1 (n : Nat) (f : Nat → Int32) : (Int × Int × Int × Int) × (Nat × Bool) := zRu n f (zBl n f (zS4 n f).2)
def zR2 (n : Nat) (f : Nat → Int32) : (Int × Int × Int × Int) × (Nat × Bool) := zRu n f (zBl n f (zR1 n f).2)
def zMore (n : Nat) (f : Nat → Int32) : Bool := decide ((zS2 n f).2.1 < n)
def zSave (n : Nat) (f : Nat → Int32) : Int := if zMore n f then (zS4 n f).1 else 0
def zEnd (n : Nat) (f : Nat → Int32) : Nat × Bool := if zMore n f then (zR2 n f).2 else (zS2 n f).2
/-- is the text broken, and where -/
def zBad (n : Nat) (f : Nat → Int32) : Bool := decide ((zEnd n f).1 < n) || (zEnd n f).2
def zPlace (n : Nat) (f : Nat → Int32) : Int := if zBad n f then ((zEnd n f).1 : Int) else -1
end
section
/-! A zone with summer: what the class computes by its rules, and what the reference finds in its list of events, are the same: mathematics alone. -/
abbrev RU : Type := Int × Int × Int × Int
def uLast (r : RU) (t sh : Int) : Int := rLast r.1 r.2.1 r.2.2.1 r.2.2.2 t sh
def uNext (r : RU) (t sh : Int) : Int := rNext r.1 r.2.1 r.2.2.1 r.2.2.2 t sh
def uMom (r : RU) (y : Int) : Int := rMom r.1 r.2.1 r.2.2.1 r.2.2.2 y
def uOk (r : RU) : Prop := rOk r.1 r.2.1 r.2.2.1 r.2.2.2
def cSum (off sv : Int) (b e : RU) (t : Int) : Bool := decide (0 < sv) && decide (uLast e t (off + sv) < uLast b t off)
def cMin (off sv : Int) (b e : RU) (t : Int) : Int := if cSum off sv b e t then off + sv else off
def zRel (off sv : Int) (b e : RU) (cnt : Nat) (E : Nat → Int) (G : Nat → Bool) : Prop :=
  -840 ≤ off ∧ off ≤ 840 ∧ ((sv = 0 ∧ cnt = 0) ∨ (1 ≤ sv ∧ sv ≤ 120 ∧ uOk b ∧ uOk e ∧ cnt = 660 ∧ evS 660 E G ∧ evM 660 E G (evP 1970 2299 (fun y => uMom b y - off * 60000) (fun y => uMom e y - (off + sv) * 60000))))
def eSum (cnt : Nat) (E : Nat → Int) (G : Nat → Bool) (t : Int) : Bool := decide (0 < evK E t cnt) && G (evK E t cnt - 1)
theorem uMom_bd {r : RU} (h : uOk r) {y : Int} (h1 : 1970 ≤ y) (h2 : y ≤ 2299) : -400000000000 ≤ uMom r y ∧ uMom r y ≤ 20000000000000 := rMom_bd h (by omega) (by omega)
section ZR
variable {off sv t : Int} {b e : RU} {cnt : Nat} {E : Nat → Int} {G : Nat → Bool}
theorem rel_last (h1 : -840 ≤ off) (h2 : off ≤ 840) (h3 : 1 ≤ sv) (h4 : sv ≤ 120) (hb : uOk b) (he : uOk e) (hs : evS 660 E G) (hm : evM 660 E G (evP 1970 2299 (fun y => uMom b y - off * 60000) (fun y => uMom e y - (off + sv) * 60000))) (ht1 : -60000000 ≤ t) (ht2 : t ≤ 10413900000000) :
    (evK E t 660 = 0 ∧ uLast b t off = -1000000000000000 ∧ uLast e t (off + sv) = -1000000000000000) ∨ (0 < evK E t 660 ∧ evK E t 660 - 1 < 660 ∧ max (uLast b t off) (uLast e t (off + sv)) = E (evK E t 660 - 1) ∧ (G (evK E t 660 - 1) = true ↔ uLast e t (off + sv) < uLast b t off)) :=
  ev_last (X := 1000000000000000) hs hm (fun y y1 y2 => by have := uMom_bd hb y1 y2; show -1000000000000000 < uMom b y - off * 60000; omega) (fun y y1 y2 => by have := uMom_bd he y1 y2; show -1000000000000000 < uMom e y - (off + sv) * 60000; omega)
    (rLast_evL hb (by omega) (by omega)) (rLast_evL he (by omega) (by omega))
theorem rel_next (h1 : -840 ≤ off) (h2 : off ≤ 840) (h3 : 1 ≤ sv) (h4 : sv ≤ 120) (hb : uOk b) (he : uOk e) (hs : evS 660 E G) (hm : evM 660 E G (evP 1970 2299 (fun y => uMom b y - off * 60000) (fun y => uMom e y - (off + sv) * 60000))) (ht1 : -60000000 ≤ t) (ht2 : t ≤ 10413900000000) :
    (evK E t 660 = 660 ∧ min (uNext b t off) (uNext e t (off + sv)) = 1000000000000000) ∨ (evK E t 660 < 660 ∧ min (uNext b t off) (uNext e t (off + sv)) = E (evK E t 660) ∧ min (uNext b t off) (uNext e t (off + sv)) < 1000000000000000 ∧ t < min (uNext b t off) (uNext e t (off + sv))) :=
  ev_next (X := 1000000000000000) hs hm (fun y y1 y2 => by have := uMom_bd hb y1 y2; show uMom b y - off * 60000 < 1000000000000000; omega) (fun y y1 y2 => by have := uMom_bd he y1 y2; show uMom e y - (off + sv) * 60000 < 1000000000000000; omega)
    (rNext_evN hb (by omega) (by omega)) (rNext_evN he (by omega) (by omega))
theorem rel_sum (h : zRel off sv b e cnt E G) (ht1 : -60000000 ≤ t) (ht2 : t ≤ 10413900000000) : cSum off sv b e t = eSum cnt E G t := by
  obtain ⟨h1, h2, ⟨rfl, rfl⟩ | ⟨h3, h4, hb, he, rfl, hs, hm⟩⟩ := h
  · simp [cSum, eSum, evK]
  · unfold cSum eSum
    rw [decide_eq_true (show 0 < sv by omega), Bool.true_and]
    rcases rel_last h1 h2 h3 h4 hb he hs hm ht1 ht2 with ⟨k, l1, l2⟩ | ⟨k, -, -, g⟩
    · rw [k, l1, l2]; simp
    · rw [decide_eq_true k, Bool.true_and]
      cases hg : G (evK E t 660 - 1) with
      | true => exact decide_eq_true (g.mp hg)
      | false => exact decide_eq_false (fun q => by rw [g.mpr q] at hg; cases hg)
/-- the last change not behind t, as both tell it -/
def cBack (off sv : Int) (b e : RU) (t : Int) : Int := if sv = 0 then -1000000000000000 else max (uLast b t off) (uLast e t (off + sv))
def cFwd (off sv : Int) (b e : RU) (t : Int) : Int := if sv = 0 then 1000000000000000 else min (uNext b t off) (uNext e t (off + sv))
def cTell (f : Int) : Int := if f < 0 ∨ f = 1000000000000000 then -1 else f
theorem rel_back (h : zRel off sv b e cnt E G) (ht1 : 0 ≤ t) (ht2 : t ≤ 10413900000000) : cTell (cBack off sv b e t) = if evK E t cnt = 0 ∨ E (evK E t cnt - 1) < 0 then -1 else E (evK E t cnt - 1) := by
  obtain ⟨h1, h2, ⟨rfl, rfl⟩ | ⟨h3, h4, hb, he, rfl, hs, hm⟩⟩ := h
  · simp [cTell, cBack, evK]
  · unfold cTell cBack
    rw [if_neg (show ¬ sv = 0 by omega)]
    have hlo := evK_lo (t := t) hs
    rcases rel_last h1 h2 h3 h4 hb he hs hm (by omega) ht2 with ⟨k, l1, l2⟩ | ⟨k, k2, l, -⟩
    · rw [k, l1, l2]; simp
    · rw [l]
      have := hlo (evK E t 660 - 1) (by omega)
      by_cases q : E (evK E t 660 - 1) < 0
      · rw [if_pos (Or.inl q), if_pos (Or.inr q)]
      · rw [if_neg (by omega), if_neg (by omega)]
theorem rel_fwd (h : zRel off sv b e cnt E G) (ht1 : 0 ≤ t) (ht2 : t ≤ 10413900000000) : cTell (cFwd off sv b e t) = if evK E t cnt = cnt then -1 else E (evK E t cnt) := by
  obtain ⟨h1, h2, ⟨rfl, rfl⟩ | ⟨h3, h4, hb, he, rfl, hs, hm⟩⟩ := h
  · simp [cTell, cFwd, evK]
  · unfold cTell cFwd
    rw [if_neg (show ¬ sv = 0 by omega)]
    rcases rel_next h1 h2 h3 h4 hb he hs hm (by omega) ht2 with ⟨k, l⟩ | ⟨k, l1, l2, l3⟩
    · rw [k, l]; simp
    · rw [if_neg (by omega), if_neg (by omega), l1]
end ZR
end
section
/-! Floor division out of truncated division. -/
theorem fl_u {a b : Int} (h : 0 < b) : a % b + b * (a / b) = a ∧ 0 ≤ a % b ∧ a % b < b := (Int.ediv_emod_unique h).mp ⟨rfl, rfl⟩
theorem fl_t {a b : Int} (ha : a < 0) : a.tdiv b = -((-a) / b) ∧ a.tmod b = -((-a) % b) := by
  constructor
  · rw [show a.tdiv b = (-(-a)).tdiv b from by rw [Int.neg_neg], Int.neg_tdiv, Int.tdiv_eq_ediv_of_nonneg (by omega)]
  · rw [show a.tmod b = (-(-a)).tmod b from by rw [Int.neg_neg], Int.neg_tmod, Int.tmod_eq_emod_of_nonneg (by omega)]
theorem fl_0 {a b : Int} (h : 0 < b) (hr : (-a) % b = 0) : a / b = -((-a) / b) ∧ a % b = 0 := by
  obtain ⟨u1, u2, u3⟩ := fl_u (a := -a) h
  exact (Int.ediv_emod_unique h).mpr ⟨by rw [Int.mul_neg]; omega, by omega, h⟩
theorem fl_1 {a b : Int} (h : 0 < b) (hr : (-a) % b ≠ 0) : a / b = -((-a) / b) - 1 ∧ a % b = b - (-a) % b := by
  obtain ⟨u1, u2, u3⟩ := fl_u (a := -a) h
  exact (Int.ediv_emod_unique h).mpr ⟨by rw [Int.mul_sub, Int.mul_neg, Int.mul_one]; omega, by omega, by omega⟩
theorem fl_p {a b : Int} (ha : 0 ≤ a) : a.tdiv b = a / b := Int.tdiv_eq_ediv_of_nonneg ha
theorem fl_pm {a b : Int} (ha : 0 ≤ a) : a.tmod b = a % b := Int.tmod_eq_emod_of_nonneg ha
theorem fl_e {a b : Int} (h : 0 < b) (ha : a < 0) (e : a.tdiv b * b = a) : a.tdiv b = a / b := by
  rw [(fl_t ha).1] at e ⊢
  obtain ⟨u1, u2, u3⟩ := fl_u (a := -a) h
  rw [Int.neg_mul, Int.mul_comm] at e
  exact (fl_0 h (by omega)).1.symm
theorem fl_n {a b : Int} (h : 0 < b) (ha : a < 0) (e : a.tdiv b * b ≠ a) : a.tdiv b - 1 = a / b := by
  rw [(fl_t ha).1] at e ⊢
  obtain ⟨u1, u2, u3⟩ := fl_u (a := -a) h
  rw [Int.neg_mul, Int.mul_comm] at e
  exact (fl_1 h (by omega)).1.symm
theorem fl_me {a b : Int} (h : 0 < b) (ha : a < 0) (e : a.tmod b = 0) : a.tmod b = a % b := by
  rw [(fl_t ha).2] at e ⊢
  rw [(fl_0 (a := a) h (by omega)).2]; omega
theorem fl_mn {a b : Int} (h : 0 < b) (ha : a < 0) (e : a.tmod b ≠ 0) : a.tmod b + b = a % b := by
  rw [(fl_t ha).2] at e ⊢
  rw [(fl_1 (a := a) h (by omega)).2]; omega
/-- how far the truncated ones reach -/
theorem fl_tb {a b : Int} (h : 0 < b) : -a.natAbs ≤ a.tdiv b ∧ a.tdiv b ≤ a.natAbs := by
  by_cases ha : a < 0
  · rw [(fl_t ha).1]
    have h1 := Int.ediv_le_self (b := b) (a := -a) (by omega)
    have h2 : 0 ≤ -a / b := Int.ediv_nonneg (by omega) (by omega)
    omega
  · rw [fl_p (by omega)]
    have h1 := Int.ediv_le_self (b := b) (a := a) (by omega)
    have h2 : 0 ≤ a / b := Int.ediv_nonneg (by omega) (by omega)
    omega
theorem fl_mb {a b : Int} (h : 0 < b) : -b < a.tmod b ∧ a.tmod b < b := by
  by_cases ha : a < 0
  · rw [(fl_t ha).2]
    obtain ⟨u1, u2, u3⟩ := fl_u (a := -a) h
    omega
  · rw [fl_pm (by omega)]
    obtain ⟨u1, u2, u3⟩ := fl_u (a := a) h
    omega
/-- the quotient times the divisor stays near -/
theorem fl_qb {a b : Int} (h : 0 < b) : -a.natAbs ≤ a.tdiv b * b ∧ a.tdiv b * b ≤ a.natAbs := by
  by_cases ha : a < 0
  · rw [(fl_t ha).1, Int.neg_mul, Int.mul_comm]
    obtain ⟨u1, u2, u3⟩ := fl_u (a := -a) h
    have h2 : 0 ≤ -a / b := Int.ediv_nonneg (by omega) (by omega)
    have := Int.mul_nonneg (show 0 ≤ b by omega) h2
    omega
  · rw [fl_p (by omega), Int.mul_comm]
    obtain ⟨u1, u2, u3⟩ := fl_u (a := a) h
    have h2 : 0 ≤ a / b := Int.ediv_nonneg (by omega) (by omega)
    have := Int.mul_nonneg (show 0 ≤ b by omega) h2
    omega
def bI (b : Bool) : Int := if b then 1 else 0
theorem bI_t : bI true = 1 := rfl
theorem bI_f : bI false = 0 := rfl
theorem bI_b (b : Bool) : 0 ≤ bI b ∧ bI b ≤ 1 := by cases b <;> decide
theorem bI_nar (b : Bool) : narrow .boolean (.int (iI (bI b))) = .int (iI (bI b)) := by cases b <;> rfl
end
section
/-! The same opening for a method of a class that the machine has entries for, where it has none for this method. -/
section CM2
variable {l : Launch} {y : MethodName} {cc : ByteArray} {n : Nat} {r : Option FieldType} {rm : Room} {D : va_G} {tys : List (ClassId × FieldType)} {av : List Value} {wc w1 : va_W} {v : Value} {ans : Option Value}
theorem pMet_ofF (hy : plainFor y = true) (hn : (lg_sl av).length ≤ n)
    (body : ∀ p e s m below meth c, p.tables.exec = Jvm.exec → c.code = cc → meth.sig.returnType = r → s.vm.findClass y.cls = some m.cls → meth.locks = false → c.maxLocals = n → tk s → va_K D vwCl tys s → va_P D vwCl wc s.heap → va_D (fun _ => True) wc →
      ∀ ls : Array Slot, lv_has ls n (lv_args 0 av) → W p l e rm s m av.toArray below meth c s.heap [] 0 0 (MQ below (pQ v) av.toArray s 0 0 (fun _ => False)) (F0 m 0 ls [])) : pMet l y cc n r rm D tys av wc v := by
  refine va_MetF (cc := cc) (maxL := n) (ret := r) hy rfl ?_
  intro p e s m args below meth c s₁ B hml hv
  obtain ⟨rfl, h1, h2, h3, h4⟩ := hv
  have hl := lv_entry av (n := n) hn
  rw [lg_entry_eq]
  exact body p e s m below meth c B.exec B.bytes B.returns (findClass_of_methodNamed B.named) B.notSynchronized hml h1 h2 h3 h4 _ hl
end CM2
end
section
/-! The month of a day, and the parts of a time: mathematics alone. -/
def cMoF (y d : Int) : Nat → Int → Int
  | 0, k => k
  | f + 1, k => if cFD y (k + 1) ≤ d then cMoF y d f (k + 1) else k
def cMo (y d : Int) : Int := cMoF y d 11 1
theorem cMoF_step {y d k : Int} (h2 : k < 12) : cMoF y d (12 - k).toNat k = if cFD y (k + 1) ≤ d then cMoF y d (12 - (k + 1)).toNat (k + 1) else k := by
  rw [show (12 - k).toNat = (12 - (k + 1)).toNat + 1 from by omega]
  rfl
theorem cMoF_end (y d : Int) : cMoF y d (12 - 12 : Int).toNat 12 = 12 := rfl
theorem cMoF_b (y d : Int) : ∀ (f : Nat) (k : Int), k ≤ cMoF y d f k ∧ cMoF y d f k ≤ k + f
  | 0, k => by simp [cMoF]
  | f + 1, k => by
    have := cMoF_b y d f (k + 1)
    unfold cMoF
    split <;> omega
theorem cMo_b (y d : Int) : 1 ≤ cMo y d ∧ cMo y d ≤ 12 := by
  have := cMoF_b y d 11 1
  unfold cMo; omega
theorem cMoF_at {y d : Int} : ∀ (f : Nat) (k : Int), 1 ≤ k → cFD y k ≤ d → d < cFD y (k + f + 1) → cFD y (cMoF y d f k) ≤ d ∧ d < cFD y (cMoF y d f k + 1)
  | 0, k, h1, h2, h3 => by
    unfold cMoF
    exact ⟨h2, by rw [show k + ((0 : Nat) : Int) + 1 = k + 1 from by omega] at h3; exact h3⟩
  | f + 1, k, h1, h2, h3 => by
    unfold cMoF
    split
    · rename_i q
      exact cMoF_at f (k + 1) (by omega) q (by rw [show k + 1 + (f : Int) + 1 = k + ((f + 1 : Nat) : Int) + 1 from by omega]; exact h3)
    · rename_i q
      exact ⟨h2, by omega⟩
theorem cFD_13 (y : Int) : cFD y 13 = cYear (y + 1) := cFirst_12 y
theorem cMo_at {y d : Int} (h1 : cYear y ≤ d) (h2 : d < cYear (y + 1)) : cFD y (cMo y d) ≤ d ∧ d < cFD y (cMo y d + 1) :=
  cMoF_at 11 1 (by omega) (by rw [cFD_1]; exact h1) (by rw [show (1 : Int) + ((11 : Nat) : Int) + 1 = 13 from by omega, cFD_13]; exact h2)
/-- a part of a local time -/
def cPart (t w : Int) : Int :=
  if w = 0 then t % 60000 / 1000 else if w = 1 then t % 3600000 / 60000 else if w = 2 then t % 86400000 / 3600000
  else if w = 3 then t / 86400000 - cFD (cY (t / 86400000)) (cMo (cY (t / 86400000)) (t / 86400000)) + 1
  else if w = 4 then cMo (cY (t / 86400000)) (t / 86400000) else if w = 5 then cY (t / 86400000) else cWd (t / 86400000) + 1
theorem cFD_b {y mo : Int} (h1 : 1900 ≤ y) (h2 : y ≤ 2399) (h3 : 1 ≤ mo) (h4 : mo ≤ 12) : -30000 ≤ cFD y mo ∧ cFD y mo ≤ 160000 := by
  have a := cFD_lo y h3
  have b := cFD_hi y h3 h4
  have c := cLen_lo y mo
  have d := cYear_b (y := y) (by omega) (by omega)
  have e := cYear_b (y := y + 1) (by omega) (by omega)
  omega
theorem cWd_b (d : Int) : 0 ≤ cWd d ∧ cWd d ≤ 6 := by unfold cWd; omega
end
section
/-! How far the moments reach; truth values as ints. -/
theorem rLast_bd {mo wk wd mi t sh : Int} (h : rOk mo wk wd mi) (h1 : -31536000000 ≤ t + sh * 60000) (h2 : t + sh * 60000 ≤ 10540000000000) (h3 : -2000 ≤ sh) (h4 : sh ≤ 2000) : -2000000000000000 ≤ rLast mo wk wd mi t sh ∧ rLast mo wk wd mi t sh ≤ 2000000000000000 := by
  rcases rLast_is h h1 h2 with ⟨a, -⟩ | ⟨z, a, b, c, -, -⟩
  · rw [a]; omega
  · have := rMom_bd h (y := z) (by omega) (by omega)
    rw [c]; omega
theorem rNext_bd {mo wk wd mi t sh : Int} (h : rOk mo wk wd mi) (h1 : -31536000000 ≤ t + sh * 60000) (h2 : t + sh * 60000 ≤ 10540000000000) (h3 : -2000 ≤ sh) (h4 : sh ≤ 2000) : -2000000000000000 ≤ rNext mo wk wd mi t sh ∧ rNext mo wk wd mi t sh ≤ 2000000000000000 := by
  rcases rNext_is h h1 h2 with ⟨a, -⟩ | ⟨z, a, b, c, -, -⟩
  · rw [a]; omega
  · have := rMom_bd h (y := z) (by omega) (by omega)
    rw [c]; omega
theorem bI_01 (b : Bool) : bI b = 0 ∨ bI b = 1 := by cases b <;> decide
theorem bI_e0 {b : Bool} (h : bI b = 0) : b = false := by cases b <;> first | rfl | exact absurd h (by decide)
theorem bI_e1 {b : Bool} (h : bI b ≠ 0) : b = true := by cases b <;> first | rfl | exact absurd rfl h
end
section
/-! What the tape's readers need of the reading's mathematics. -/
theorem tv_j (x : Int32) : Value.int (x &&& iI 255) = .int (iI (tv x)) := by
  rw [show iI 255 = (255 : Int32) from by decide, tv_i]
theorem zPk_in {n : Nat} {f : Nat → Int32} {i : Nat} (h : i < n) : zPk n f i = tv (f i) := by unfold zPk; rw [if_pos h]
theorem zPk_out {n : Nat} {f : Nat → Int32} {i : Nat} (h : ¬ i < n) : zPk n f i = -1 := by unfold zPk; rw [if_neg h]
def zDigB (x : Int) : Bool := decide (48 ≤ x) && decide (x ≤ 57)
theorem zDigB_t {x : Int} (h : bI (zDigB x) ≠ 0) : 48 ≤ x ∧ x ≤ 57 := by
  have := bI_e1 h
  simpa [zDigB] using this
theorem zDigB_f {x : Int} (h : bI (zDigB x) = 0) : ¬ (48 ≤ x ∧ x ≤ 57) := by
  have := bI_e0 h
  simp [zDigB] at this
  omega
theorem zByte_eq {n : Nat} {f : Nat → Int32} {c : Int} {i : Nat} (h : zPk n f i = c) : zByte n f c (i, false) = (i + 1, false) := by simp [zByte, h]
theorem zByte_ne {n : Nat} {f : Nat → Int32} {c : Int} {i : Nat} (h : zPk n f i ≠ c) : zByte n f c (i, false) = (i, true) := by simp [zByte, h]
theorem zBl_by (n : Nat) (f : Nat → Int32) (z : Nat × Bool) : zBl n f z = if (zByte n f 32 z).2 then zByte n f 32 z else (zSkip f (n - (zByte n f 32 z).1) (zByte n f 32 z).1, false) := by
  obtain ⟨i, b⟩ := z
  cases b with
  | true => rw [zByte_brk n f 32 rfl, zBl_brk n f rfl]; rfl
  | false =>
    by_cases h : zPk n f i = 32
    · rw [zByte_eq h]; simp [zBl, h]
    · rw [zByte_ne h]; simp [zBl, h]
theorem zSkip_go {f : Nat → Int32} {n j : Nat} (h : j < n) (e : tv (f j) = 32) : zSkip f (n - j) j = zSkip f (n - (j + 1)) (j + 1) := by
  rw [show n - j = (n - (j + 1)) + 1 from by omega]; simp [zSkip, e]
theorem zSkip_at {f : Nat → Int32} {n j : Nat} (h : j < n) (e : tv (f j) ≠ 32) : zSkip f (n - j) j = j := by
  rw [show n - j = (n - (j + 1)) + 1 from by omega]; simp [zSkip, e]
theorem zSkip_end {f : Nat → Int32} {n j : Nat} (h : n ≤ j) : zSkip f (n - j) j = j := by
  rw [show n - j = 0 from by omega]; rfl
theorem zRun_go {f : Nat → Int32} {n j : Nat} {v : Int} (h : j < n) (e : 48 ≤ tv (f j) ∧ tv (f j) ≤ 57) : zRun f (n - j) j v = zRun f (n - (j + 1)) (j + 1) (min (v * 10 + tv (f j) - 48) 100000) := by
  rw [show n - j = (n - (j + 1)) + 1 from by omega]; simp [zRun, e]
theorem zRun_at {f : Nat → Int32} {n j : Nat} {v : Int} (h : j < n) (e : ¬ (48 ≤ tv (f j) ∧ tv (f j) ≤ 57)) : zRun f (n - j) j v = (v, j) := by
  rw [show n - j = (n - (j + 1)) + 1 from by omega]; simp only [zRun]; rw [if_neg e]
theorem zRun_end {f : Nat → Int32} {n j : Nat} {v : Int} (h : n ≤ j) : zRun f (n - j) j v = (v, j) := by
  rw [show n - j = 0 from by omega]; rfl
theorem zDg_no {n : Nat} {f : Nat → Int32} {i : Nat} (h : ¬ (48 ≤ zPk n f i ∧ zPk n f i ≤ 57)) : zDg n f i = (-1, i) := by unfold zDg; rw [if_neg h]
theorem zDg_0 {n : Nat} {f : Nat → Int32} {i : Nat} (h : zPk n f i = 48) : zDg n f i = (0, i + 1) := by unfold zDg; rw [if_pos (by omega), if_pos h]
theorem zDg_r {n : Nat} {f : Nat → Int32} {i : Nat} (h : 48 ≤ zPk n f i ∧ zPk n f i ≤ 57) (h0 : zPk n f i ≠ 48) : zDg n f i = zRun f (n - (i + 1)) (i + 1) (zPk n f i - 48) := by unfold zDg; rw [if_pos h, if_neg h0]
theorem zPk_lt {n : Nat} {f : Nat → Int32} {i : Nat} (h : 0 ≤ zPk n f i) : i < n := by
  unfold zPk at h
  split at h
  · assumption
  · omega
theorem zNum_bad {n : Nat} {f : Nat → Int32} {lo hi : Int} {i : Nat} (h : (zDg n f i).1 < lo ∨ hi < (zDg n f i).1) : zNum n f lo hi (i, false) = ((zDg n f i).1, (i, true)) := by
  unfold zNum; simp only []; rw [if_neg (by simp), if_pos h]
theorem zNum_good {n : Nat} {f : Nat → Int32} {lo hi : Int} {i : Nat} (h : ¬ ((zDg n f i).1 < lo ∨ hi < (zDg n f i).1)) : zNum n f lo hi (i, false) = ((zDg n f i).1, ((zDg n f i).2, false)) := by
  unfold zNum; simp only []; rw [if_neg (by simp), if_neg h]
/-- a byte out of an int -/
def bs (x : Int32) (k : Int) : Int32 := (x >>> (iI k &&& 31)).toInt8.toInt32
def ap4 (f : Nat → Int32) (n : Nat) (x : Int32) : Nat → Int32 := upd (upd (upd (upd f n (bs x 24)) (n + 1) (bs x 16)) (n + 2) (bs x 8)) (n + 3) (bs x 0)
end
section
/-! The states on the way through a rule's text; a choice of rules. -/
def zU1 (n : Nat) (f : Nat → Int32) (z : Nat × Bool) : Nat × Bool := zByte n f 77 z
def zU2 (n : Nat) (f : Nat → Int32) (z : Nat × Bool) : Int × (Nat × Bool) := zNum n f 1 12 (zU1 n f z)
def zU3 (n : Nat) (f : Nat → Int32) (z : Nat × Bool) : Nat × Bool := zByte n f 46 (zU2 n f z).2
def zU4 (n : Nat) (f : Nat → Int32) (z : Nat × Bool) : Int × (Nat × Bool) := zNum n f 1 5 (zU3 n f z)
def zU5 (n : Nat) (f : Nat → Int32) (z : Nat × Bool) : Nat × Bool := zByte n f 46 (zU4 n f z).2
def zU6 (n : Nat) (f : Nat → Int32) (z : Nat × Bool) : Int × (Nat × Bool) := zNum n f 0 6 (zU5 n f z)
def zU7 (n : Nat) (f : Nat → Int32) (z : Nat × Bool) : Nat × Bool := zByte n f 47 (zU6 n f z).2
def zU8 (n : Nat) (f : Nat → Int32) (z : Nat × Bool) : Int × (Nat × Bool) := zNum n f 0 1439 (zU7 n f z)
theorem zRu_u (n : Nat) (f : Nat → Int32) (z : Nat × Bool) : zRu n f z = (((zU2 n f z).1, (zU4 n f z).1, (zU6 n f z).1, (zU8 n f z).1), (zU8 n f z).2) := rfl
section ZU
variable {n : Nat} {f : Nat → Int32} {z : Nat × Bool}
theorem zU1_b (h : z.1 ≤ n) : (zU1 n f z).1 ≤ n := (zByte_b (f := f) (c := 77) (by decide) h).2
theorem zU2_b (h : z.1 ≤ n) : (zU2 n f z).2.1 ≤ n := (zNum_b (f := f) (lo := 1) (hi := 12) (zU1_b h)).2.1
theorem zU3_b (h : z.1 ≤ n) : (zU3 n f z).1 ≤ n := (zByte_b (f := f) (c := 46) (by decide) (zU2_b h)).2
theorem zU4_b (h : z.1 ≤ n) : (zU4 n f z).2.1 ≤ n := (zNum_b (f := f) (lo := 1) (hi := 5) (zU3_b h)).2.1
theorem zU5_b (h : z.1 ≤ n) : (zU5 n f z).1 ≤ n := (zByte_b (f := f) (c := 46) (by decide) (zU4_b h)).2
theorem zU6_b (h : z.1 ≤ n) : (zU6 n f z).2.1 ≤ n := (zNum_b (f := f) (lo := 0) (hi := 6) (zU5_b h)).2.1
theorem zU7_b (h : z.1 ≤ n) : (zU7 n f z).1 ≤ n := (zByte_b (f := f) (c := 47) (by decide) (zU6_b h)).2
theorem zU8_b (h : z.1 ≤ n) : (zU8 n f z).2.1 ≤ n := (zNum_b (f := f) (lo := 0) (hi := 1439) (zU7_b h)).2.1
theorem zRu_b (h : z.1 ≤ n) : (zRu n f z).2.1 ≤ n := zU8_b h
end ZU
theorem zS2_b (n : Nat) (f : Nat → Int32) : (zS2 n f).2.1 ≤ n := by
  unfold zS2
  exact (zNum_b (f := f) (lo := 0) (hi := 840) (zByte_b (f := f) (c := if zPk n f 0 = 45 then 45 else 43) (z := (0, false)) (by split <;> decide) (Nat.zero_le _)).2).2.1
theorem zS4_b (n : Nat) (f : Nat → Int32) : (zS4 n f).2.1 ≤ n := (zNum_b (f := f) (lo := 1) (hi := 120) (zBl_b (f := f) (zS2_b n f)).2).2.1
theorem zR1_b (n : Nat) (f : Nat → Int32) : (zR1 n f).2.1 ≤ n := zRu_b (zBl_b (f := f) (zS4_b n f)).2
theorem zR2_b (n : Nat) (f : Nat → Int32) : (zR2 n f).2.1 ≤ n := zRu_b (zBl_b (f := f) (zR1_b n f)).2
def rsel (c : Bool) (x y : RU) : RU := if c then x else y
end
section
/-! Contracts: Math, Calendar. By program (wip/whole/m_math.py). -/
abbrev rm_Math_minI : Room := { frames := 0, cells := 0, slots := 0, locals := 0 }
set_option maxHeartbeats 4000000 in
set_option maxRecDepth 100000 in
theorem ct_Math_minI (l : Launch) (D : va_G) (tys : List (ClassId × FieldType)) (a : Int) (b : Int) (ga1 : -2147483648 ≤ a) (ga2 : a ≤ 2147483647) (gb1 : -2147483648 ≤ b) (gb2 : b ≤ 2147483647) : pMet l y_Math_minI c_Math_minI 2 (some .int) rm_Math_minI D tys [.int (iI a), .int (iI b)] [] (.int (iI (min a b))) := by
  refine pMet_ofF (by decide +kernel) (Nat.le_of_ble_eq_true rfl) ?_
  intro p e s m below meth c hx hb hr hown hlk hml hk hK hP hD ls hl
  have hl : lv_has ls 2 [(0, .int (iI a)), (1, .int (iI b))] := hl
  refine lv_iload_n hx hb d_Math_minI_0 rfl (lv_at hl 0 rfl) ?_
  refine lv_iload_n hx hb d_Math_minI_1 rfl (lv_at hl 1 rfl) ?_
  refine ri_icmp_gt (tgt := 9) hx hb d_Math_minI_2 (by decide) (fun h2 => ?_) (fun h2 => ?_)
  · refine lv_iload_n hx hb d_Math_minI_9 rfl (lv_at hl 1 rfl) ?_
    exact p_iret hx hb hr hlk d_Math_minI_10 (by omega)
  · refine lv_iload_n hx hb d_Math_minI_5 rfl (lv_at hl 0 rfl) ?_
    refine lv_goto (tgt := 10) hx hb d_Math_minI_6 (by decide) ?_
    exact p_iret hx hb hr hlk d_Math_minI_10 (by omega)
abbrev rm_Math_maxI : Room := { frames := 0, cells := 0, slots := 0, locals := 0 }
set_option maxHeartbeats 4000000 in
set_option maxRecDepth 100000 in
theorem ct_Math_maxI (l : Launch) (D : va_G) (tys : List (ClassId × FieldType)) (a : Int) (b : Int) (ga1 : -2147483648 ≤ a) (ga2 : a ≤ 2147483647) (gb1 : -2147483648 ≤ b) (gb2 : b ≤ 2147483647) : pMet l y_Math_maxI c_Math_maxI 2 (some .int) rm_Math_maxI D tys [.int (iI a), .int (iI b)] [] (.int (iI (max a b))) := by
  refine pMet_ofF (by decide +kernel) (Nat.le_of_ble_eq_true rfl) ?_
  intro p e s m below meth c hx hb hr hown hlk hml hk hK hP hD ls hl
  have hl : lv_has ls 2 [(0, .int (iI a)), (1, .int (iI b))] := hl
  refine lv_iload_n hx hb d_Math_maxI_0 rfl (lv_at hl 0 rfl) ?_
  refine lv_iload_n hx hb d_Math_maxI_1 rfl (lv_at hl 1 rfl) ?_
  refine ri_icmp_lt (tgt := 9) hx hb d_Math_maxI_2 (by decide) (fun h2 => ?_) (fun h2 => ?_)
  · refine lv_iload_n hx hb d_Math_maxI_9 rfl (lv_at hl 1 rfl) ?_
    exact p_iret hx hb hr hlk d_Math_maxI_10 (by omega)
  · refine lv_iload_n hx hb d_Math_maxI_5 rfl (lv_at hl 0 rfl) ?_
    refine lv_goto (tgt := 10) hx hb d_Math_maxI_6 (by decide) ?_
    exact p_iret hx hb hr hlk d_Math_maxI_10 (by omega)
abbrev rm_Math_minJ : Room := { frames := 0, cells := 0, slots := 0, locals := 0 }
set_option maxHeartbeats 4000000 in
set_option maxRecDepth 100000 in
theorem ct_Math_minJ (l : Launch) (D : va_G) (tys : List (ClassId × FieldType)) (a : Int) (b : Int) (ga1 : -9223372036854775808 ≤ a) (ga2 : a ≤ 9223372036854775807) (gb1 : -9223372036854775808 ≤ b) (gb2 : b ≤ 9223372036854775807) : pMet l y_Math_minJ c_Math_minJ 4 (some .long) rm_Math_minJ D tys [.long (lL a), .long (lL b)] [] (.long (lL (min a b))) := by
  refine pMet_ofF (by decide +kernel) (Nat.le_of_ble_eq_true rfl) ?_
  intro p e s m below meth c hx hb hr hown hlk hml hk hK hP hD ls hl
  have hl : lv_has ls 4 [(0, .long (lL a)), (2, .long (lL b))] := hl
  refine lv_lload_n hx hb d_Math_minJ_0 rfl (lv_at hl 0 rfl) ?_
  refine lv_lload_n hx hb d_Math_minJ_1 rfl (lv_at hl 1 rfl) ?_
  refine ri_lcmp_gt (tgt := 10) hx hb d_Math_minJ_2 d_Math_minJ_3 (by decide) (fun h2 => ?_) (fun h2 => ?_)
  · refine lv_lload_n hx hb d_Math_minJ_10 rfl (lv_at hl 1 rfl) ?_
    exact p_lret hx hb hr hlk d_Math_minJ_11 (by omega)
  · refine lv_lload_n hx hb d_Math_minJ_6 rfl (lv_at hl 0 rfl) ?_
    refine lv_goto (tgt := 11) hx hb d_Math_minJ_7 (by decide) ?_
    exact p_lret hx hb hr hlk d_Math_minJ_11 (by omega)
abbrev rm_Math_maxJ : Room := { frames := 0, cells := 0, slots := 0, locals := 0 }
set_option maxHeartbeats 4000000 in
set_option maxRecDepth 100000 in
theorem ct_Math_maxJ (l : Launch) (D : va_G) (tys : List (ClassId × FieldType)) (a : Int) (b : Int) (ga1 : -9223372036854775808 ≤ a) (ga2 : a ≤ 9223372036854775807) (gb1 : -9223372036854775808 ≤ b) (gb2 : b ≤ 9223372036854775807) : pMet l y_Math_maxJ c_Math_maxJ 4 (some .long) rm_Math_maxJ D tys [.long (lL a), .long (lL b)] [] (.long (lL (max a b))) := by
  refine pMet_ofF (by decide +kernel) (Nat.le_of_ble_eq_true rfl) ?_
  intro p e s m below meth c hx hb hr hown hlk hml hk hK hP hD ls hl
  have hl : lv_has ls 4 [(0, .long (lL a)), (2, .long (lL b))] := hl
  refine lv_lload_n hx hb d_Math_maxJ_0 rfl (lv_at hl 0 rfl) ?_
  refine lv_lload_n hx hb d_Math_maxJ_1 rfl (lv_at hl 1 rfl) ?_
  refine ri_lcmp_lt (tgt := 10) hx hb d_Math_maxJ_2 d_Math_maxJ_3 (by decide) (fun h2 => ?_) (fun h2 => ?_)
  · refine lv_lload_n hx hb d_Math_maxJ_10 rfl (lv_at hl 1 rfl) ?_
    exact p_lret hx hb hr hlk d_Math_maxJ_11 (by omega)
  · refine lv_lload_n hx hb d_Math_maxJ_6 rfl (lv_at hl 0 rfl) ?_
    refine lv_goto (tgt := 11) hx hb d_Math_maxJ_7 (by decide) ?_
    exact p_lret hx hb hr hlk d_Math_maxJ_11 (by omega)
abbrev rm_Math_floorDivI : Room := { frames := 0, cells := 0, slots := 0, locals := 0 }
set_option maxHeartbeats 4000000 in
set_option maxRecDepth 100000 in
theorem ct_Math_floorDivI (l : Launch) (D : va_G) (tys : List (ClassId × FieldType)) (a : Int) (b : Int) (ga1 : -1073741824 ≤ a) (ga2 : a ≤ 1073741823) (gb1 : 0 < b) (gb2 : b ≤ 2147483647) : pMet l y_Math_floorDivI c_Math_floorDivI 3 (some .int) rm_Math_floorDivI D tys [.int (iI a), .int (iI b)] [] (.int (iI (a / b))) := by
  refine pMet_ofF (by decide +kernel) (Nat.le_of_ble_eq_true rfl) ?_
  intro p e s m below meth c hx hb hr hown hlk hml hk hK hP hD ls hl
  have hl : lv_has ls 3 [(0, .int (iI a)), (1, .int (iI b))] := hl
  have fb := fl_tb (a := a) gb1
  have fm := fl_mb (a := a) gb1
  have fq := fl_qb (a := a) gb1
  refine lv_iload_n hx hb d_Math_floorDivI_0 rfl (lv_at hl 0 rfl) ?_
  refine lv_iload_n hx hb d_Math_floorDivI_1 rfl (lv_at hl 1 rfl) ?_
  refine ri_idivT hx hb d_Math_floorDivI_2 ?_
  refine lv_istore_n (lv' := [(2, .int (iI (a.tdiv b))), (0, .int (iI a)), (1, .int (iI b))]) hx hb d_Math_floorDivI_3 rfl hl (by decide) rfl (fun ls hl => ?_)
  refine lv_iload_n hx hb d_Math_floorDivI_4 rfl (lv_at hl 1 rfl) ?_
  refine lv_iload_n hx hb d_Math_floorDivI_5 rfl (lv_at hl 2 rfl) ?_
  refine ri_ixor_ge (tgt := 21) hx hb d_Math_floorDivI_6 d_Math_floorDivI_7 (by decide) (fun h6 => ?_) (fun h6 => ?_)
  · refine lv_iload_n hx hb d_Math_floorDivI_21 rfl (lv_at hl 0 rfl) ?_
    exact p_iret hx hb hr hlk d_Math_floorDivI_22 (by first | exact fl_p h6 | exact fl_e gb1 h6 h14)
  · refine lv_iload_n hx hb d_Math_floorDivI_10 rfl (lv_at hl 0 rfl) ?_
    refine lv_iload_n hx hb d_Math_floorDivI_11 rfl (lv_at hl 2 rfl) ?_
    refine ri_imul hx hb d_Math_floorDivI_12 ?_
    refine lv_iload_n hx hb d_Math_floorDivI_13 rfl (lv_at hl 1 rfl) ?_
    refine ri_icmp_eq (tgt := 21) hx hb d_Math_floorDivI_14 (by decide) (fun h14 => ?_) (fun h14 => ?_)
    · refine lv_iload_n hx hb d_Math_floorDivI_21 rfl (lv_at hl 0 rfl) ?_
      exact p_iret hx hb hr hlk d_Math_floorDivI_22 (by first | exact fl_p h6 | exact fl_e gb1 h6 h14)
    · refine lv_iload_n hx hb d_Math_floorDivI_17 rfl (lv_at hl 0 rfl) ?_
      refine lv_iconst (v := iI 1) hx hb d_Math_floorDivI_18 rfl ?_
      refine ri_isub hx hb d_Math_floorDivI_19 ?_
      exact p_iret hx hb hr hlk d_Math_floorDivI_20 (by exact fl_n gb1 h6 h14)
abbrev rm_Math_floorDivJ : Room := { frames := 0, cells := 0, slots := 0, locals := 0 }
set_option maxHeartbeats 4000000 in
set_option maxRecDepth 100000 in
theorem ct_Math_floorDivJ (l : Launch) (D : va_G) (tys : List (ClassId × FieldType)) (a : Int) (b : Int) (ga1 : -4611686018427387904 ≤ a) (ga2 : a ≤ 4611686018427387903) (gb1 : 0 < b) (gb2 : b ≤ 9223372036854775807) : pMet l y_Math_floorDivJ c_Math_floorDivJ 6 (some .long) rm_Math_floorDivJ D tys [.long (lL a), .long (lL b)] [] (.long (lL (a / b))) := by
  refine pMet_ofF (by decide +kernel) (Nat.le_of_ble_eq_true rfl) ?_
  intro p e s m below meth c hx hb hr hown hlk hml hk hK hP hD ls hl
  have hl : lv_has ls 6 [(0, .long (lL a)), (2, .long (lL b))] := hl
  have fb := fl_tb (a := a) gb1
  have fm := fl_mb (a := a) gb1
  have fq := fl_qb (a := a) gb1
  refine lv_lload_n hx hb d_Math_floorDivJ_0 rfl (lv_at hl 0 rfl) ?_
  refine lv_lload_n hx hb d_Math_floorDivJ_1 rfl (lv_at hl 1 rfl) ?_
  refine ri_ldivT hx hb d_Math_floorDivJ_2 ?_
  refine lv_lstore (lv' := [(4, .long (lL (a.tdiv b))), (0, .long (lL a)), (2, .long (lL b))]) hx hb d_Math_floorDivJ_3 hl (by decide) rfl (fun ls hl => ?_)
  refine lv_lload_n hx hb d_Math_floorDivJ_5 rfl (lv_at hl 1 rfl) ?_
  refine lv_lload_n hx hb d_Math_floorDivJ_6 rfl (lv_at hl 2 rfl) ?_
  refine ri_lxor_ge (tgt := 27) hx hb d_Math_floorDivJ_7 d_Math_floorDivJ_8 d_Math_floorDivJ_9 d_Math_floorDivJ_10 (by decide) (fun h7 => ?_) (fun h7 => ?_)
  · refine lv_lload hx hb d_Math_floorDivJ_27 (lv_at hl 0 rfl) ?_
    exact p_lret hx hb hr hlk d_Math_floorDivJ_29 (by first | exact fl_p h7 | exact fl_e gb1 h7 h18)
  · refine lv_lload hx hb d_Math_floorDivJ_13 (lv_at hl 0 rfl) ?_
    refine lv_lload_n hx hb d_Math_floorDivJ_15 rfl (lv_at hl 2 rfl) ?_
    refine ri_lmul hx hb d_Math_floorDivJ_16 ?_
    refine lv_lload_n hx hb d_Math_floorDivJ_17 rfl (lv_at hl 1 rfl) ?_
    refine ri_lcmp_eq (tgt := 27) hx hb d_Math_floorDivJ_18 d_Math_floorDivJ_19 (by decide) (fun h18 => ?_) (fun h18 => ?_)
    · refine lv_lload hx hb d_Math_floorDivJ_27 (lv_at hl 0 rfl) ?_
      exact p_lret hx hb hr hlk d_Math_floorDivJ_29 (by first | exact fl_p h7 | exact fl_e gb1 h7 h18)
    · refine lv_lload hx hb d_Math_floorDivJ_22 (lv_at hl 0 rfl) ?_
      refine lv_lconst (v := lL 1) hx hb d_Math_floorDivJ_24 (by decide) ?_
      refine ri_lsub hx hb d_Math_floorDivJ_25 ?_
      exact p_lret hx hb hr hlk d_Math_floorDivJ_26 (by exact fl_n gb1 h7 h18)
abbrev rm_Math_floorModI : Room := { frames := 0, cells := 0, slots := 0, locals := 0 }
set_option maxHeartbeats 4000000 in
set_option maxRecDepth 100000 in
theorem ct_Math_floorModI (l : Launch) (D : va_G) (tys : List (ClassId × FieldType)) (a : Int) (b : Int) (ga1 : -1073741824 ≤ a) (ga2 : a ≤ 1073741823) (gb1 : 0 < b) (gb2 : b ≤ 2147483647) : pMet l y_Math_floorModI c_Math_floorModI 3 (some .int) rm_Math_floorModI D tys [.int (iI a), .int (iI b)] [] (.int (iI (a % b))) := by
  refine pMet_ofF (by decide +kernel) (Nat.le_of_ble_eq_true rfl) ?_
  intro p e s m below meth c hx hb hr hown hlk hml hk hK hP hD ls hl
  have hl : lv_has ls 3 [(0, .int (iI a)), (1, .int (iI b))] := hl
  have fb := fl_tb (a := a) gb1
  have fm := fl_mb (a := a) gb1
  have fq := fl_qb (a := a) gb1
  refine lv_iload_n hx hb d_Math_floorModI_0 rfl (lv_at hl 0 rfl) ?_
  refine lv_iload_n hx hb d_Math_floorModI_1 rfl (lv_at hl 1 rfl) ?_
  refine ri_iremT hx hb d_Math_floorModI_2 ?_
  refine lv_istore_n (lv' := [(2, .int (iI (a.tmod b))), (0, .int (iI a)), (1, .int (iI b))]) hx hb d_Math_floorModI_3 rfl hl (by decide) rfl (fun ls hl => ?_)
  refine lv_iload_n hx hb d_Math_floorModI_4 rfl (lv_at hl 1 rfl) ?_
  refine lv_iload_n hx hb d_Math_floorModI_5 rfl (lv_at hl 2 rfl) ?_
  refine ri_ixor_ge (tgt := 18) hx hb d_Math_floorModI_6 d_Math_floorModI_7 (by decide) (fun h6 => ?_) (fun h6 => ?_)
  · refine lv_iload_n hx hb d_Math_floorModI_18 rfl (lv_at hl 0 rfl) ?_
    exact p_iret hx hb hr hlk d_Math_floorModI_19 (by first | exact fl_pm h6 | exact fl_me gb1 h6 h11)
  · refine lv_iload_n hx hb d_Math_floorModI_10 rfl (lv_at hl 0 rfl) ?_
    refine ri_if_eq (tgt := 18) hx hb d_Math_floorModI_11 (by decide) (fun h11 => ?_) (fun h11 => ?_)
    · refine lv_iload_n hx hb d_Math_floorModI_18 rfl (lv_at hl 0 rfl) ?_
      exact p_iret hx hb hr hlk d_Math_floorModI_19 (by first | exact fl_pm h6 | exact fl_me gb1 h6 h11)
    · refine lv_iload_n hx hb d_Math_floorModI_14 rfl (lv_at hl 0 rfl) ?_
      refine lv_iload_n hx hb d_Math_floorModI_15 rfl (lv_at hl 2 rfl) ?_
      refine ri_iadd hx hb d_Math_floorModI_16 ?_
      exact p_iret hx hb hr hlk d_Math_floorModI_17 (by exact fl_mn gb1 h6 h11)
abbrev rm_Math_floorModJ : Room := { frames := 0, cells := 0, slots := 0, locals := 0 }
set_option maxHeartbeats 4000000 in
set_option maxRecDepth 100000 in
theorem ct_Math_floorModJ (l : Launch) (D : va_G) (tys : List (ClassId × FieldType)) (a : Int) (b : Int) (ga1 : -4611686018427387904 ≤ a) (ga2 : a ≤ 4611686018427387903) (gb1 : 0 < b) (gb2 : b ≤ 9223372036854775807) : pMet l y_Math_floorModJ c_Math_floorModJ 6 (some .long) rm_Math_floorModJ D tys [.long (lL a), .long (lL b)] [] (.long (lL (a % b))) := by
  refine pMet_ofF (by decide +kernel) (Nat.le_of_ble_eq_true rfl) ?_
  intro p e s m below meth c hx hb hr hown hlk hml hk hK hP hD ls hl
  have hl : lv_has ls 6 [(0, .long (lL a)), (2, .long (lL b))] := hl
  have fb := fl_tb (a := a) gb1
  have fm := fl_mb (a := a) gb1
  have fq := fl_qb (a := a) gb1
  refine lv_lload_n hx hb d_Math_floorModJ_0 rfl (lv_at hl 0 rfl) ?_
  refine lv_lload_n hx hb d_Math_floorModJ_1 rfl (lv_at hl 1 rfl) ?_
  refine ri_lremT hx hb d_Math_floorModJ_2 ?_
  refine lv_lstore (lv' := [(4, .long (lL (a.tmod b))), (0, .long (lL a)), (2, .long (lL b))]) hx hb d_Math_floorModJ_3 hl (by decide) rfl (fun ls hl => ?_)
  refine lv_lload_n hx hb d_Math_floorModJ_5 rfl (lv_at hl 1 rfl) ?_
  refine lv_lload_n hx hb d_Math_floorModJ_6 rfl (lv_at hl 2 rfl) ?_
  refine ri_lxor_ge (tgt := 25) hx hb d_Math_floorModJ_7 d_Math_floorModJ_8 d_Math_floorModJ_9 d_Math_floorModJ_10 (by decide) (fun h7 => ?_) (fun h7 => ?_)
  · refine lv_lload hx hb d_Math_floorModJ_25 (lv_at hl 0 rfl) ?_
    exact p_lret hx hb hr hlk d_Math_floorModJ_27 (by first | exact fl_pm h7 | exact fl_me gb1 h7 h16)
  · refine lv_lload hx hb d_Math_floorModJ_13 (lv_at hl 0 rfl) ?_
    refine lv_lconst (v := lL 0) hx hb d_Math_floorModJ_15 (by decide) ?_
    refine ri_lcmp_eq (tgt := 25) hx hb d_Math_floorModJ_16 d_Math_floorModJ_17 (by decide) (fun h16 => ?_) (fun h16 => ?_)
    · refine lv_lload hx hb d_Math_floorModJ_25 (lv_at hl 0 rfl) ?_
      exact p_lret hx hb hr hlk d_Math_floorModJ_27 (by first | exact fl_pm h7 | exact fl_me gb1 h7 h16)
    · refine lv_lload hx hb d_Math_floorModJ_20 (lv_at hl 0 rfl) ?_
      refine lv_lload_n hx hb d_Math_floorModJ_22 rfl (lv_at hl 2 rfl) ?_
      refine ri_ladd hx hb d_Math_floorModJ_23 ?_
      exact p_lret hx hb hr hlk d_Math_floorModJ_24 (by exact fl_mn gb1 h7 h16)
end
section
/-! Contracts: Calendar. By program (wip/whole/m_cal.py). -/
abbrev rm_Cal_lengthOf : Room := { frames := 0, cells := 0, slots := 0, locals := 0 }
set_option maxHeartbeats 4000000 in
set_option maxRecDepth 100000 in
theorem ct_Cal_lengthOf (l : Launch) (D : va_G) (tys : List (ClassId × FieldType)) (y : Int) (mo : Int) (gy1 : 1900 ≤ y) (gy2 : y ≤ 2400) (gm1 : 1 ≤ mo) (gm2 : mo ≤ 12) : pMet l y_Cal_lengthOf c_Cal_lengthOf 2 (some .int) rm_Cal_lengthOf D tys [.int (iI y), .int (iI mo)] [] (.int (iI (cLen y mo))) := by
  refine pMet_of (by decide) (Nat.le_of_ble_eq_true rfl) ?_
  intro p e s m below meth c hx hb hr hown hlk hml hk hK hP hD ls hl
  have hl : lv_has ls 2 [(0, .int (iI y)), (1, .int (iI mo))] := hl
  refine lv_iload_n hx hb d_Cal_lengthOf_0 rfl (lv_at hl 1 rfl) ?_
  obtain rfl | rfl | rfl | rfl | rfl | rfl | rfl | rfl | rfl | rfl | rfl | rfl : mo = 1 ∨ mo = 2 ∨ mo = 3 ∨ mo = 4 ∨ mo = 5 ∨ mo = 6 ∨ mo = 7 ∨ mo = 8 ∨ mo = 9 ∨ mo = 10 ∨ mo = 11 ∨ mo = 12 := by omega
  · refine lv_tableOut (tgt := 88) hx hb d_Cal_lengthOf_1 (by decide) (by decide) ?_
    refine lv_bipush (v := iI 31) hx hb d_Cal_lengthOf_88 (by decide) ?_
    exact p_iret hx hb hr hlk d_Cal_lengthOf_90 (by simp [cLen])
  · refine lv_tableIn (off := 55) (tgt := 56) hx hb d_Cal_lengthOf_1 (by decide) (by decide) (by decide) (by decide) ?_
    refine lv_iload_n hx hb d_Cal_lengthOf_56 rfl (lv_at hl 0 rfl) ?_
    refine lv_iconst (v := iI 4) hx hb d_Cal_lengthOf_57 rfl ?_
    refine ri_irem hx hb d_Cal_lengthOf_58 ?_
    refine ri_if_ne (tgt := 82) hx hb d_Cal_lengthOf_59 (by decide) (fun h59 => ?_) (fun h59 => ?_)
    · refine lv_bipush (v := iI 28) hx hb d_Cal_lengthOf_82 (by decide) ?_
      have hc : cLeap y = false := by simp [cLeap]; omega
      exact p_iret hx hb hr hlk d_Cal_lengthOf_84 (by rw [show cLen y 2 = (if cLeap y then 29 else 28) from rfl, hc]; rfl)
    · refine lv_iload_n hx hb d_Cal_lengthOf_62 rfl (lv_at hl 0 rfl) ?_
      refine lv_bipush (v := iI 100) hx hb d_Cal_lengthOf_63 (by decide) ?_
      refine ri_irem hx hb d_Cal_lengthOf_65 ?_
      refine ri_if_ne (tgt := 77) hx hb d_Cal_lengthOf_66 (by decide) (fun h66 => ?_) (fun h66 => ?_)
      · refine lv_bipush (v := iI 29) hx hb d_Cal_lengthOf_77 (by decide) ?_
        refine lv_goto (tgt := 84) hx hb d_Cal_lengthOf_79 (by decide) ?_
        have hc : cLeap y = true := by simp [cLeap]; omega
        exact p_iret hx hb hr hlk d_Cal_lengthOf_84 (by rw [show cLen y 2 = (if cLeap y then 29 else 28) from rfl, hc]; rfl)
      · refine lv_iload_n hx hb d_Cal_lengthOf_69 rfl (lv_at hl 0 rfl) ?_
        refine lv_sipush (v := iI 400) hx hb d_Cal_lengthOf_70 (by decide) ?_
        refine ri_irem hx hb d_Cal_lengthOf_73 ?_
        refine ri_if_ne (tgt := 82) hx hb d_Cal_lengthOf_74 (by decide) (fun h74 => ?_) (fun h74 => ?_)
        · refine lv_bipush (v := iI 28) hx hb d_Cal_lengthOf_82 (by decide) ?_
          have hc : cLeap y = false := by simp [cLeap]; omega
          exact p_iret hx hb hr hlk d_Cal_lengthOf_84 (by rw [show cLen y 2 = (if cLeap y then 29 else 28) from rfl, hc]; rfl)
        · refine lv_bipush (v := iI 29) hx hb d_Cal_lengthOf_77 (by decide) ?_
          refine lv_goto (tgt := 84) hx hb d_Cal_lengthOf_79 (by decide) ?_
          have hc : cLeap y = true := by simp [cLeap]; omega
          exact p_iret hx hb hr hlk d_Cal_lengthOf_84 (by rw [show cLen y 2 = (if cLeap y then 29 else 28) from rfl, hc]; rfl)
  · refine lv_tableIn (off := 87) (tgt := 88) hx hb d_Cal_lengthOf_1 (by decide) (by decide) (by decide) (by decide) ?_
    refine lv_bipush (v := iI 31) hx hb d_Cal_lengthOf_88 (by decide) ?_
    exact p_iret hx hb hr hlk d_Cal_lengthOf_90 (by simp [cLen])
  · refine lv_tableIn (off := 84) (tgt := 85) hx hb d_Cal_lengthOf_1 (by decide) (by decide) (by decide) (by decide) ?_
    refine lv_bipush (v := iI 30) hx hb d_Cal_lengthOf_85 (by decide) ?_
    exact p_iret hx hb hr hlk d_Cal_lengthOf_87 (by simp [cLen])
  · refine lv_tableIn (off := 87) (tgt := 88) hx hb d_Cal_lengthOf_1 (by decide) (by decide) (by decide) (by decide) ?_
    refine lv_bipush (v := iI 31) hx hb d_Cal_lengthOf_88 (by decide) ?_
    exact p_iret hx hb hr hlk d_Cal_lengthOf_90 (by simp [cLen])
  · refine lv_tableIn (off := 84) (tgt := 85) hx hb d_Cal_lengthOf_1 (by decide) (by decide) (by decide) (by decide) ?_
    refine lv_bipush (v := iI 30) hx hb d_Cal_lengthOf_85 (by decide) ?_
    exact p_iret hx hb hr hlk d_Cal_lengthOf_87 (by simp [cLen])
  · refine lv_tableIn (off := 87) (tgt := 88) hx hb d_Cal_lengthOf_1 (by decide) (by decide) (by decide) (by decide) ?_
    refine lv_bipush (v := iI 31) hx hb d_Cal_lengthOf_88 (by decide) ?_
    exact p_iret hx hb hr hlk d_Cal_lengthOf_90 (by simp [cLen])
  · refine lv_tableIn (off := 87) (tgt := 88) hx hb d_Cal_lengthOf_1 (by decide) (by decide) (by decide) (by decide) ?_
    refine lv_bipush (v := iI 31) hx hb d_Cal_lengthOf_88 (by decide) ?_
    exact p_iret hx hb hr hlk d_Cal_lengthOf_90 (by simp [cLen])
  · refine lv_tableIn (off := 84) (tgt := 85) hx hb d_Cal_lengthOf_1 (by decide) (by decide) (by decide) (by decide) ?_
    refine lv_bipush (v := iI 30) hx hb d_Cal_lengthOf_85 (by decide) ?_
    exact p_iret hx hb hr hlk d_Cal_lengthOf_87 (by simp [cLen])
  · refine lv_tableIn (off := 87) (tgt := 88) hx hb d_Cal_lengthOf_1 (by decide) (by decide) (by decide) (by decide) ?_
    refine lv_bipush (v := iI 31) hx hb d_Cal_lengthOf_88 (by decide) ?_
    exact p_iret hx hb hr hlk d_Cal_lengthOf_90 (by simp [cLen])
  · refine lv_tableIn (off := 84) (tgt := 85) hx hb d_Cal_lengthOf_1 (by decide) (by decide) (by decide) (by decide) ?_
    refine lv_bipush (v := iI 30) hx hb d_Cal_lengthOf_85 (by decide) ?_
    exact p_iret hx hb hr hlk d_Cal_lengthOf_87 (by simp [cLen])
  · refine lv_tableOut (tgt := 88) hx hb d_Cal_lengthOf_1 (by decide) (by decide) ?_
    refine lv_bipush (v := iI 31) hx hb d_Cal_lengthOf_88 (by decide) ?_
    exact p_iret hx hb hr hlk d_Cal_lengthOf_90 (by simp [cLen])
abbrev rm_Cal_firstDayOf : Room := { frames := 1, cells := 0, slots := 0, locals := 21 }
set_option maxHeartbeats 4000000 in
set_option maxRecDepth 100000 in
theorem ct_Cal_firstDayOf (l : Launch) (D : va_G) (tys : List (ClassId × FieldType)) (y : Int) (mo : Int) (gy1 : 1900 ≤ y) (gy2 : y ≤ 2400) (gm1 : 1 ≤ mo) (gm2 : mo ≤ 12) : pMet l y_Cal_firstDayOf c_Cal_firstDayOf 6 (some .int) rm_Cal_firstDayOf D tys [.int (iI y), .int (iI mo)] [] (.int (iI (cFD y mo))) := by
  refine pMet_of (by decide) (Nat.le_of_ble_eq_true rfl) ?_
  intro p e s m below meth c hx hb hr hown hlk hml hk hK hP hD ls hl
  have hl : lv_has ls 6 [(0, .int (iI y)), (1, .int (iI mo))] := hl
  refine lv_iload_n hx hb d_Cal_firstDayOf_0 rfl (lv_at hl 0 rfl) ?_
  refine lv_iconst (v := iI 1) hx hb d_Cal_firstDayOf_1 rfl ?_
  refine ri_isub hx hb d_Cal_firstDayOf_2 ?_
  refine lv_istore_n (lv' := [(2, .int (iI (y - 1))), (0, .int (iI y)), (1, .int (iI mo))]) hx hb d_Cal_firstDayOf_3 rfl hl (by decide) rfl (fun ls hl => ?_)
  refine lv_iload_n hx hb d_Cal_firstDayOf_4 rfl (lv_at hl 0 rfl) ?_
  refine lv_iconst (v := iI 4) hx hb d_Cal_firstDayOf_5 rfl ?_
  refine ri_idiv hx hb d_Cal_firstDayOf_6 ?_
  refine lv_iload_n hx hb d_Cal_firstDayOf_7 rfl (lv_at hl 0 rfl) ?_
  refine lv_bipush (v := iI 100) hx hb d_Cal_firstDayOf_8 (by decide) ?_
  refine ri_idiv hx hb d_Cal_firstDayOf_10 ?_
  refine ri_isub hx hb d_Cal_firstDayOf_11 ?_
  refine lv_iload_n hx hb d_Cal_firstDayOf_12 rfl (lv_at hl 0 rfl) ?_
  refine lv_sipush (v := iI 400) hx hb d_Cal_firstDayOf_13 (by decide) ?_
  refine ri_idiv hx hb d_Cal_firstDayOf_16 ?_
  refine ri_iadd hx hb d_Cal_firstDayOf_17 ?_
  refine lv_sipush (v := iI 477) hx hb d_Cal_firstDayOf_18 (by decide) ?_
  refine ri_isub hx hb d_Cal_firstDayOf_21 ?_
  refine lv_istore_n (lv' := [(3, .int (iI (((((y - 1) / 4) - ((y - 1) / 100)) + ((y - 1) / 400)) - 477))), (2, .int (iI (y - 1))), (0, .int (iI y)), (1, .int (iI mo))]) hx hb d_Cal_firstDayOf_22 rfl hl (by decide) rfl (fun ls hl => ?_)
  refine lv_sipush (v := iI 365) hx hb d_Cal_firstDayOf_23 (by decide) ?_
  refine lv_iload_n hx hb d_Cal_firstDayOf_26 rfl (lv_at hl 2 rfl) ?_
  refine lv_sipush (v := iI 1970) hx hb d_Cal_firstDayOf_27 (by decide) ?_
  refine ri_isub hx hb d_Cal_firstDayOf_30 ?_
  refine ri_imul hx hb d_Cal_firstDayOf_31 ?_
  refine lv_iload_n hx hb d_Cal_firstDayOf_32 rfl (lv_at hl 0 rfl) ?_
  refine ri_iadd hx hb d_Cal_firstDayOf_33 ?_
  refine ri_i (show (365 * (y - 1970)) + (((((y - 1) / 4) - ((y - 1) / 100)) + ((y - 1) / 400)) - 477) = cFD y 1 from by rw [cFD_1]; unfold cYear; omega) ?_
  refine lv_istore (lv' := [(4, .int (iI (cFD y 1))), (3, .int (iI (((((y - 1) / 4) - ((y - 1) / 100)) + ((y - 1) / 400)) - 477))), (2, .int (iI (y - 1))), (0, .int (iI y)), (1, .int (iI mo))]) hx hb d_Cal_firstDayOf_34 hl (by decide) rfl (fun ls hl => ?_)
  refine lv_iconst (v := iI 1) hx hb d_Cal_firstDayOf_36 rfl ?_
  refine lv_istore (lv' := [(5, .int (iI 1)), (4, .int (iI (cFD y 1))), (3, .int (iI (((((y - 1) / 4) - ((y - 1) / 100)) + ((y - 1) / 400)) - 477))), (2, .int (iI (y - 1))), (0, .int (iI y)), (1, .int (iI mo))]) hx hb d_Cal_firstDayOf_37 hl (by decide) rfl (fun ls hl => ?_)
  have loop39 : ∀ (n : Nat) (k : Int) (ls : Array Slot), (1 ≤ k) → (k ≤ mo) → (mo - k).toNat = n → lv_has ls 6 [(5, .int (iI k)), (4, .int (iI (cFD y k))), (0, .int (iI y)), (1, .int (iI mo))] → W p l e rm_Cal_firstDayOf s m ([.int (iI y), .int (iI mo)] : List Value).toArray below meth c s.heap [] 0 0 (MQ below (pQ (.int (iI (cFD y mo)))) ([.int (iI y), .int (iI mo)] : List Value).toArray s 0 0 (fun _ => False)) (F0 m 39 ls []) := by
    intro n
    induction n using Nat.strongRecOn with
    | _ n ih =>
    intro k ls hk1 hk2 hn hl
    refine lv_iload hx hb d_Cal_firstDayOf_39 (lv_at hl 0 rfl) ?_
    refine lv_iload_n hx hb d_Cal_firstDayOf_41 rfl (lv_at hl 3 rfl) ?_
    refine ri_icmp_ge (tgt := 62) hx hb d_Cal_firstDayOf_42 (by decide) (fun h42 => ?_) (fun h42 => ?_)
    · refine lv_iload hx hb d_Cal_firstDayOf_62 (lv_at hl 1 rfl) ?_
      exact p_iret hx hb hr hlk d_Cal_firstDayOf_64 (by rw [show k = mo by omega])
    · refine lv_iload hx hb d_Cal_firstDayOf_45 (lv_at hl 1 rfl) ?_
      refine lv_iload_n hx hb d_Cal_firstDayOf_47 rfl (lv_at hl 2 rfl) ?_
      refine lv_iload hx hb d_Cal_firstDayOf_48 (lv_at hl 0 rfl) ?_
      refine p_callS (rest := [.int (iI (cFD y k))]) hx hb (hml.trans hl.1.symm) hown hk hK k_Cal_50 (ct_Cal_lengthOf l D tys y k (by omega) (by omega) (by omega) (by omega)) nil_P nil_D rfl rfl ⟨rfl, rfl⟩ ⟨by decide, by decide, by decide, by decide⟩ (Nat.le_of_ble_eq_true rfl) d_Cal_firstDayOf_50 ?_
      refine ri_iadd hx hb d_Cal_firstDayOf_53 ?_
      refine ri_i (show (cFD y k) + (cLen y k) = cFD y (k + 1) from (cFD_succ y hk1).symm) ?_
      refine lv_istore (lv' := [(4, .int (iI (cFD y (k + 1)))), (5, .int (iI k)), (0, .int (iI y)), (1, .int (iI mo))]) hx hb d_Cal_firstDayOf_54 hl (by decide) rfl (fun ls hl => ?_)
      refine lv_iinc (k := 1) (v := iI (k + 1)) (lv' := [(5, .int (iI (k + 1))), (4, .int (iI (cFD y (k + 1)))), (0, .int (iI y)), (1, .int (iI mo))]) hx hb d_Cal_firstDayOf_56 hl rfl (iI_add _ _) (by decide) rfl (fun ls hl => ?_)
      refine lv_goto (tgt := 39) hx hb d_Cal_firstDayOf_59 (by decide) ?_
      exact ih _ (by omega) (k + 1) ls (by omega) (by omega) rfl (lv_sub hl [0, 1, 2, 3] rfl)
  exact loop39 _ 1 ls (by omega) (by omega) rfl (lv_sub hl [0, 1, 4, 5] rfl)
abbrev rm_Cal_dayAt : Room := { frames := 1, cells := 0, slots := 0, locals := 25 }
set_option maxHeartbeats 4000000 in
set_option maxRecDepth 100000 in
theorem ct_Cal_dayAt (l : Launch) (D : va_G) (tys : List (ClassId × FieldType)) (t : Int) (gt1 : -4611686018427387904 ≤ t) (gt2 : t ≤ 4611686018427387903) : pMet l y_Cal_dayAt c_Cal_dayAt 2 (some .int) rm_Cal_dayAt D tys [.long (lL t)] [] (.int (iI (t / 86400000))) := by
  refine pMet_of (by decide) (Nat.le_of_ble_eq_true rfl) ?_
  intro p e s m below meth c hx hb hr hown hlk hml hk hK hP hD ls hl
  have hl : lv_has ls 2 [(0, .long (lL t))] := hl
  refine lv_lload_n hx hb d_Cal_dayAt_0 rfl (lv_at hl 0 rfl) ?_
  refine lv_ldc2 (v := lL 86400000) hx hb hown (hk _ kc_Cal_31 _) d_Cal_dayAt_1 ?_
  refine p_callS (rest := []) hx hb (hml.trans hl.1.symm) hown hk hK k_Cal_43 (ct_Math_floorDivJ l D tys t 86400000 (by omega) (by omega) (by omega) (by omega)) nil_P nil_D rfl rfl ⟨rfl, rfl⟩ ⟨by decide, by decide, by decide, by decide⟩ (Nat.le_of_ble_eq_true rfl) d_Cal_dayAt_4 ?_
  refine ri_l2i hx hb d_Cal_dayAt_7 ?_
  exact p_iret hx hb hr hlk d_Cal_dayAt_8 (by rfl)
abbrev rm_Cal_weekdayOf : Room := { frames := 1, cells := 0, slots := 0, locals := 22 }
set_option maxHeartbeats 4000000 in
set_option maxRecDepth 100000 in
theorem ct_Cal_weekdayOf (l : Launch) (D : va_G) (tys : List (ClassId × FieldType)) (d : Int) (gd1 : -1000000 ≤ d) (gd2 : d ≤ 1000000) : pMet l y_Cal_weekdayOf c_Cal_weekdayOf 1 (some .int) rm_Cal_weekdayOf D tys [.int (iI d)] [] (.int (iI (cWd d))) := by
  refine pMet_of (by decide) (Nat.le_of_ble_eq_true rfl) ?_
  intro p e s m below meth c hx hb hr hown hlk hml hk hK hP hD ls hl
  have hl : lv_has ls 1 [(0, .int (iI d))] := hl
  refine lv_iload_n hx hb d_Cal_weekdayOf_0 rfl (lv_at hl 0 rfl) ?_
  refine lv_iconst (v := iI 4) hx hb d_Cal_weekdayOf_1 rfl ?_
  refine ri_iadd hx hb d_Cal_weekdayOf_2 ?_
  refine lv_bipush (v := iI 7) hx hb d_Cal_weekdayOf_3 (by decide) ?_
  refine p_callS (rest := []) hx hb (hml.trans hl.1.symm) hown hk hK k_Cal_46 (ct_Math_floorModI l D tys (d + 4) 7 (by omega) (by omega) (by omega) (by omega)) nil_P nil_D rfl rfl ⟨rfl, rfl⟩ ⟨by decide, by decide, by decide, by decide⟩ (Nat.le_of_ble_eq_true rfl) d_Cal_weekdayOf_5 ?_
  exact p_iret hx hb hr hlk d_Cal_weekdayOf_8 (by rfl)
abbrev rm_Cal_yearOf : Room := { frames := 2, cells := 0, slots := 0, locals := 46 }
set_option maxHeartbeats 4000000 in
set_option maxRecDepth 100000 in
theorem ct_Cal_yearOf (l : Launch) (D : va_G) (tys : List (ClassId × FieldType)) (d : Int) (gd1 : -365 ≤ d) (gd2 : d ≤ 122000) : pMet l y_Cal_yearOf c_Cal_yearOf 2 (some .int) rm_Cal_yearOf D tys [.int (iI d)] [] (.int (iI (cY d))) := by
  refine pMet_of (by decide) (Nat.le_of_ble_eq_true rfl) ?_
  intro p e s m below meth c hx hb hr hown hlk hml hk hK hP hD ls hl
  have hl : lv_has ls 2 [(0, .int (iI d))] := hl
  refine lv_sipush (v := iI 1970) hx hb d_Cal_yearOf_0 (by decide) ?_
  refine lv_iload_n hx hb d_Cal_yearOf_3 rfl (lv_at hl 0 rfl) ?_
  refine lv_sipush (v := iI 365) hx hb d_Cal_yearOf_4 (by decide) ?_
  refine p_callS (rest := [.int (iI 1970)]) hx hb (hml.trans hl.1.symm) hown hk hK k_Cal_48 (ct_Math_floorDivI l D tys d 365 (by omega) (by omega) (by omega) (by omega)) nil_P nil_D rfl rfl ⟨rfl, rfl⟩ ⟨by decide, by decide, by decide, by decide⟩ (Nat.le_of_ble_eq_true rfl) d_Cal_yearOf_7 ?_
  refine ri_iadd hx hb d_Cal_yearOf_10 ?_
  refine lv_istore_n (lv' := [(1, .int (iI (1970 + (d / 365)))), (0, .int (iI d))]) hx hb d_Cal_yearOf_11 rfl hl (by decide) rfl (fun ls hl => ?_)
  refine lv_iload_n hx hb d_Cal_yearOf_12 rfl (lv_at hl 0 rfl) ?_
  refine lv_iconst (v := iI 1) hx hb d_Cal_yearOf_13 rfl ?_
  refine p_callS (rest := []) hx hb (hml.trans hl.1.symm) hown hk hK k_Cal_37 (ct_Cal_firstDayOf l D tys (1970 + (d / 365)) 1 (by omega) (by omega) (by omega) (by omega)) nil_P nil_D rfl rfl ⟨rfl, rfl⟩ ⟨by decide, by decide, by decide, by decide⟩ (Nat.le_of_ble_eq_true rfl) d_Cal_yearOf_14 ?_
  refine ri_i (show cFD (1970 + (d / 365)) 1 = cYear (1970 + d / 365) from rfl) ?_
  have gY := cYear_b (y := 1970 + d / 365) (by omega) (by omega)
  refine lv_iload_n hx hb d_Cal_yearOf_17 rfl (lv_at hl 1 rfl) ?_
  refine ri_icmp_le (tgt := 27) hx hb d_Cal_yearOf_18 (by decide) (fun h18 => ?_) (fun h18 => ?_)
  · refine lv_iload_n hx hb d_Cal_yearOf_27 rfl (lv_at hl 0 rfl) ?_
    exact p_iret hx hb hr hlk d_Cal_yearOf_28 (by unfold cY; first | rw [if_neg (by omega)] | rw [if_pos (by omega)])
  · refine lv_iload_n hx hb d_Cal_yearOf_21 rfl (lv_at hl 0 rfl) ?_
    refine lv_iconst (v := iI 1) hx hb d_Cal_yearOf_22 rfl ?_
    refine ri_isub hx hb d_Cal_yearOf_23 ?_
    refine lv_goto (tgt := 28) hx hb d_Cal_yearOf_24 (by decide) ?_
    exact p_iret hx hb hr hlk d_Cal_yearOf_28 (by unfold cY; first | rw [if_neg (by omega)] | rw [if_pos (by omega)])
end
section
/-! Contracts: Calendar (months, parts), Rule. By program (wip/whole/m_rule.py). -/
abbrev rm_Cal_monthOf : Room := { frames := 2, cells := 0, slots := 0, locals := 46 }
set_option maxHeartbeats 4000000 in
set_option maxRecDepth 100000 in
theorem ct_Cal_monthOf (l : Launch) (D : va_G) (tys : List (ClassId × FieldType)) (y : Int) (d : Int) (gy1 : 1900 ≤ y) (gy2 : y ≤ 2399) (gd1 : -1000000 ≤ d) (gd2 : d ≤ 1000000) : pMet l y_Cal_monthOf c_Cal_monthOf 3 (some .int) rm_Cal_monthOf D tys [.int (iI y), .int (iI d)] [] (.int (iI (cMo y d))) := by
  refine pMet_of (by decide) (Nat.le_of_ble_eq_true rfl) ?_
  intro p e s m below meth c hx hb hr hown hlk hml hk hK hP hD ls hl
  have hl : lv_has ls 3 [(0, .int (iI y)), (1, .int (iI d))] := hl
  refine lv_iconst (v := iI 1) hx hb d_Cal_monthOf_0 rfl ?_
  refine lv_istore_n (lv' := [(2, .int (iI 1)), (0, .int (iI y)), (1, .int (iI d))]) hx hb d_Cal_monthOf_1 rfl hl (by decide) rfl (fun ls hl => ?_)
  have loop2 : ∀ (n : Nat) (k : Int) (ls : Array Slot), (1 ≤ k) → (k ≤ 12) → (cMo y d = cMoF y d (12 - k).toNat k) → (12 - k).toNat = n → lv_has ls 3 [(2, .int (iI k)), (0, .int (iI y)), (1, .int (iI d))] → W p l e rm_Cal_monthOf s m ([.int (iI y), .int (iI d)] : List Value).toArray below meth c s.heap [] 0 0 (MQ below (pQ (.int (iI (cMo y d)))) ([.int (iI y), .int (iI d)] : List Value).toArray s 0 0 (fun _ => False)) (F0 m 2 ls []) := by
    intro n
    induction n using Nat.strongRecOn with
    | _ n ih =>
    intro k ls hk1 hk2 hv hn hl
    refine lv_iload_n hx hb d_Cal_monthOf_2 rfl (lv_at hl 0 rfl) ?_
    refine lv_bipush (v := iI 12) hx hb d_Cal_monthOf_3 (by decide) ?_
    refine ri_icmp_ge (tgt := 25) hx hb d_Cal_monthOf_5 (by decide) (fun h5 => ?_) (fun h5 => ?_)
    · refine lv_iload_n hx hb d_Cal_monthOf_25 rfl (lv_at hl 0 rfl) ?_
      exact p_iret hx hb hr hlk d_Cal_monthOf_26 (by rw [hv]; first | (rw [cMoF_step (by omega), if_neg (by omega)]; done) | (rw [show k = 12 by omega]; rfl))
    · refine lv_iload_n hx hb d_Cal_monthOf_8 rfl (lv_at hl 1 rfl) ?_
      refine lv_iload_n hx hb d_Cal_monthOf_9 rfl (lv_at hl 0 rfl) ?_
      refine lv_iconst (v := iI 1) hx hb d_Cal_monthOf_10 rfl ?_
      refine ri_iadd hx hb d_Cal_monthOf_11 ?_
      refine p_callS (rest := []) hx hb (hml.trans hl.1.symm) hown hk hK k_Cal_37 (ct_Cal_firstDayOf l D tys y (k + 1) (by omega) (by omega) (by omega) (by omega)) nil_P nil_D rfl rfl ⟨rfl, rfl⟩ ⟨by decide, by decide, by decide, by decide⟩ (Nat.le_of_ble_eq_true rfl) d_Cal_monthOf_12 ?_
      have gF := cFD_b (y := y) (mo := k + 1) (by omega) (by omega) (by omega) (by omega)
      refine lv_iload_n hx hb d_Cal_monthOf_15 rfl (lv_at hl 2 rfl) ?_
      refine ri_icmp_gt (tgt := 25) hx hb d_Cal_monthOf_16 (by decide) (fun h16 => ?_) (fun h16 => ?_)
      · refine lv_iload_n hx hb d_Cal_monthOf_25 rfl (lv_at hl 0 rfl) ?_
        exact p_iret hx hb hr hlk d_Cal_monthOf_26 (by rw [hv]; first | (rw [cMoF_step (by omega), if_neg (by omega)]; done) | (rw [show k = 12 by omega]; rfl))
      · refine lv_iinc (k := 0) (v := iI (k + 1)) (lv' := [(2, .int (iI (k + 1))), (0, .int (iI y)), (1, .int (iI d))]) hx hb d_Cal_monthOf_19 hl rfl (iI_add _ _) (by decide) rfl (fun ls hl => ?_)
        refine lv_goto (tgt := 2) hx hb d_Cal_monthOf_22 (by decide) ?_
        exact ih _ (by omega) (k + 1) ls (by omega) (by omega) (by rw [hv, cMoF_step (by omega), if_pos h16]) rfl (lv_sub hl [0, 1, 2] rfl)
  exact loop2 _ 1 ls (by omega) (by omega) rfl rfl (lv_sub hl [0, 1, 2] rfl)
abbrev rm_Cal_partOf : Room := { frames := 3, cells := 0, slots := 0, locals := 68 }
set_option maxHeartbeats 4000000 in
set_option maxRecDepth 100000 in
theorem ct_Cal_partOf (l : Launch) (D : va_G) (tys : List (ClassId × FieldType)) (t : Int) (w : Int) (gt1 : -1000000000 ≤ t) (gt2 : t ≤ 10540000000000) (gw1 : 0 ≤ w) (gw2 : w ≤ 6) : pMet l y_Cal_partOf c_Cal_partOf 5 (some .int) rm_Cal_partOf D tys [.long (lL t), .int (iI w)] [] (.int (iI (cPart t w))) := by
  refine pMet_of (by decide) (Nat.le_of_ble_eq_true rfl) ?_
  intro p e s m below meth c hx hb hr hown hlk hml hk hK hP hD ls hl
  have hl : lv_has ls 5 [(0, .long (lL t)), (2, .int (iI w))] := hl
  refine lv_lload_n hx hb d_Cal_partOf_0 rfl (lv_at hl 0 rfl) ?_
  refine p_callS (rest := []) hx hb (hml.trans hl.1.symm) hown hk hK k_Cal_9 (ct_Cal_dayAt l D tys t (by omega) (by omega)) nil_P nil_D rfl rfl ⟨rfl, rfl⟩ ⟨by decide, by decide, by decide, by decide⟩ (Nat.le_of_ble_eq_true rfl) d_Cal_partOf_1 ?_
  refine lv_istore_n (lv' := [(3, .int (iI (t / 86400000))), (0, .long (lL t)), (2, .int (iI w))]) hx hb d_Cal_partOf_4 rfl hl (by decide) rfl (fun ls hl => ?_)
  have gY := cY_b (d := t / 86400000) (by omega) (by omega)
  have gM := cMo_b (cY (t / 86400000)) (t / 86400000)
  refine lv_iload_n hx hb d_Cal_partOf_5 rfl (lv_at hl 0 rfl) ?_
  refine p_callS (rest := []) hx hb (hml.trans hl.1.symm) hown hk hK k_Cal_15 (ct_Cal_yearOf l D tys (t / 86400000) (by omega) (by omega)) nil_P nil_D rfl rfl ⟨rfl, rfl⟩ ⟨by decide, by decide, by decide, by decide⟩ (Nat.le_of_ble_eq_true rfl) d_Cal_partOf_6 ?_
  refine lv_istore (lv' := [(4, .int (iI (cY (t / 86400000)))), (3, .int (iI (t / 86400000))), (0, .long (lL t)), (2, .int (iI w))]) hx hb d_Cal_partOf_9 hl (by decide) rfl (fun ls hl => ?_)
  refine lv_iload_n hx hb d_Cal_partOf_11 rfl (lv_at hl 3 rfl) ?_
  obtain rfl | rfl | rfl | rfl | rfl | rfl | rfl : w = 0 ∨ w = 1 ∨ w = 2 ∨ w = 3 ∨ w = 4 ∨ w = 5 ∨ w = 6 := by omega
  · refine lv_tableIn (off := 40) (tgt := 52) hx hb d_Cal_partOf_12 (by decide) (by decide) (by decide) (by decide) ?_
    refine lv_lload_n hx hb d_Cal_partOf_52 rfl (lv_at hl 2 rfl) ?_
    refine lv_ldc2 (v := lL 60000) hx hb hown (hk _ kc_Cal_19 _) d_Cal_partOf_53 ?_
    refine p_callS (rest := []) hx hb (hml.trans hl.1.symm) hown hk hK k_Cal_21 (ct_Math_floorModJ l D tys t 60000 (by omega) (by omega) (by omega) (by omega)) nil_P nil_D rfl rfl ⟨rfl, rfl⟩ ⟨by decide, by decide, by decide, by decide⟩ (Nat.le_of_ble_eq_true rfl) d_Cal_partOf_56 ?_
    refine lv_ldc2 (v := lL 1000) hx hb hown (hk _ kc_Cal_27 _) d_Cal_partOf_59 ?_
    refine ri_ldiv hx hb d_Cal_partOf_62 ?_
    refine ri_l2i hx hb d_Cal_partOf_63 ?_
    exact p_iret hx hb hr hlk d_Cal_partOf_64 (by simp [cPart])
  · refine lv_tableIn (off := 53) (tgt := 65) hx hb d_Cal_partOf_12 (by decide) (by decide) (by decide) (by decide) ?_
    refine lv_lload_n hx hb d_Cal_partOf_65 rfl (lv_at hl 2 rfl) ?_
    refine lv_ldc2 (v := lL 3600000) hx hb hown (hk _ kc_Cal_29 _) d_Cal_partOf_66 ?_
    refine p_callS (rest := []) hx hb (hml.trans hl.1.symm) hown hk hK k_Cal_21 (ct_Math_floorModJ l D tys t 3600000 (by omega) (by omega) (by omega) (by omega)) nil_P nil_D rfl rfl ⟨rfl, rfl⟩ ⟨by decide, by decide, by decide, by decide⟩ (Nat.le_of_ble_eq_true rfl) d_Cal_partOf_69 ?_
    refine lv_ldc2 (v := lL 60000) hx hb hown (hk _ kc_Cal_19 _) d_Cal_partOf_72 ?_
    refine ri_ldiv hx hb d_Cal_partOf_75 ?_
    refine ri_l2i hx hb d_Cal_partOf_76 ?_
    exact p_iret hx hb hr hlk d_Cal_partOf_77 (by simp [cPart])
  · refine lv_tableIn (off := 66) (tgt := 78) hx hb d_Cal_partOf_12 (by decide) (by decide) (by decide) (by decide) ?_
    refine lv_lload_n hx hb d_Cal_partOf_78 rfl (lv_at hl 2 rfl) ?_
    refine lv_ldc2 (v := lL 86400000) hx hb hown (hk _ kc_Cal_31 _) d_Cal_partOf_79 ?_
    refine p_callS (rest := []) hx hb (hml.trans hl.1.symm) hown hk hK k_Cal_21 (ct_Math_floorModJ l D tys t 86400000 (by omega) (by omega) (by omega) (by omega)) nil_P nil_D rfl rfl ⟨rfl, rfl⟩ ⟨by decide, by decide, by decide, by decide⟩ (Nat.le_of_ble_eq_true rfl) d_Cal_partOf_82 ?_
    refine lv_ldc2 (v := lL 3600000) hx hb hown (hk _ kc_Cal_29 _) d_Cal_partOf_85 ?_
    refine ri_ldiv hx hb d_Cal_partOf_88 ?_
    refine ri_l2i hx hb d_Cal_partOf_89 ?_
    exact p_iret hx hb hr hlk d_Cal_partOf_90 (by simp [cPart])
  · refine lv_tableIn (off := 79) (tgt := 91) hx hb d_Cal_partOf_12 (by decide) (by decide) (by decide) (by decide) ?_
    refine lv_iload_n hx hb d_Cal_partOf_91 rfl (lv_at hl 1 rfl) ?_
    refine lv_iload hx hb d_Cal_partOf_92 (lv_at hl 0 rfl) ?_
    refine lv_iload hx hb d_Cal_partOf_94 (lv_at hl 0 rfl) ?_
    refine lv_iload_n hx hb d_Cal_partOf_96 rfl (lv_at hl 1 rfl) ?_
    refine p_callS (rest := [.int (iI (cY (t / 86400000))), .int (iI (t / 86400000))]) hx hb (hml.trans hl.1.symm) hown hk hK k_Cal_33 (ct_Cal_monthOf l D tys (cY (t / 86400000)) (t / 86400000) (by omega) (by omega) (by omega) (by omega)) nil_P nil_D rfl rfl ⟨rfl, rfl⟩ ⟨by decide, by decide, by decide, by decide⟩ (Nat.le_of_ble_eq_true rfl) d_Cal_partOf_97 ?_
    refine p_callS (rest := [.int (iI (t / 86400000))]) hx hb (hml.trans hl.1.symm) hown hk hK k_Cal_37 (ct_Cal_firstDayOf l D tys (cY (t / 86400000)) (cMo (cY (t / 86400000)) (t / 86400000)) (by omega) (by omega) (by omega) (by omega)) nil_P nil_D rfl rfl ⟨rfl, rfl⟩ ⟨by decide, by decide, by decide, by decide⟩ (Nat.le_of_ble_eq_true rfl) d_Cal_partOf_100 ?_
    refine ri_isub hx hb d_Cal_partOf_103 ?_
    refine lv_iconst (v := iI 1) hx hb d_Cal_partOf_104 rfl ?_
    refine ri_iadd hx hb d_Cal_partOf_105 ?_
    exact p_iret hx hb hr hlk d_Cal_partOf_106 (by simp [cPart])
  · refine lv_tableIn (off := 95) (tgt := 107) hx hb d_Cal_partOf_12 (by decide) (by decide) (by decide) (by decide) ?_
    refine lv_iload hx hb d_Cal_partOf_107 (lv_at hl 0 rfl) ?_
    refine lv_iload_n hx hb d_Cal_partOf_109 rfl (lv_at hl 1 rfl) ?_
    refine p_callS (rest := []) hx hb (hml.trans hl.1.symm) hown hk hK k_Cal_33 (ct_Cal_monthOf l D tys (cY (t / 86400000)) (t / 86400000) (by omega) (by omega) (by omega) (by omega)) nil_P nil_D rfl rfl ⟨rfl, rfl⟩ ⟨by decide, by decide, by decide, by decide⟩ (Nat.le_of_ble_eq_true rfl) d_Cal_partOf_110 ?_
    exact p_iret hx hb hr hlk d_Cal_partOf_113 (by simp [cPart])
  · refine lv_tableIn (off := 102) (tgt := 114) hx hb d_Cal_partOf_12 (by decide) (by decide) (by decide) (by decide) ?_
    refine lv_iload hx hb d_Cal_partOf_114 (lv_at hl 0 rfl) ?_
    exact p_iret hx hb hr hlk d_Cal_partOf_116 (by simp [cPart])
  · refine lv_tableOut (tgt := 117) hx hb d_Cal_partOf_12 (by decide) (by decide) ?_
    refine lv_iload_n hx hb d_Cal_partOf_117 rfl (lv_at hl 1 rfl) ?_
    refine p_callS (rest := []) hx hb (hml.trans hl.1.symm) hown hk hK k_Cal_40 (ct_Cal_weekdayOf l D tys (t / 86400000) (by omega) (by omega)) nil_P nil_D rfl rfl ⟨rfl, rfl⟩ ⟨by decide, by decide, by decide, by decide⟩ (Nat.le_of_ble_eq_true rfl) d_Cal_partOf_118 ?_
    refine lv_iconst (v := iI 1) hx hb d_Cal_partOf_121 rfl ?_
    refine ri_iadd hx hb d_Cal_partOf_122 ?_
    exact p_iret hx hb hr hlk d_Cal_partOf_123 (by simp [cPart])
abbrev rm_Rule_momentIn : Room := { frames := 2, cells := 0, slots := 0, locals := 47 }
set_option maxHeartbeats 4000000 in
set_option maxRecDepth 100000 in
theorem ct_Rule_momentIn (l : Launch) (D : va_G) (tys : List (ClassId × FieldType)) (a : Nat) (mo : Int) (wk : Int) (wd : Int) (mi : Int) (y : Int) (gr : rOk mo wk wd mi) (gy1 : 1900 ≤ y) (gy2 : y ≤ 2399) : pMet l y_Rule_momentIn c_Rule_momentIn 5 (some .long) rm_Rule_momentIn D tys [.ref a, .int (iI y)] [(a, .inr (0, [.int (iI mo), .int (iI wk), .int (iI wd), .int (iI mi)]))] (.long (lL (rMom mo wk wd mi y))) := by
  refine pMet_of (by decide) (Nat.le_of_ble_eq_true rfl) ?_
  intro p e s m below meth c hx hb hr hown hlk hml hk hK hP hD ls hl
  have hl : lv_has ls 5 [(0, .ref a), (1, .int (iI y))] := hl
  obtain ⟨r1, r2, r3, r4, r5, r6, r7, r8⟩ := id gr
  refine lv_iload_n hx hb d_Rule_momentIn_0 rfl (lv_at hl 1 rfl) ?_
  refine lv_aload_n hx hb d_Rule_momentIn_1 rfl (lv_at hl 0 rfl) ?_
  refine g_get hx hb hk hown hK hP 0 rfl f_Rule_9 rfl d_Rule_momentIn_2 ?_
  have gF := cFD_b (y := y) (mo := mo) (by omega) (by omega) (by omega) (by omega)
  have gW := cWd_b (cFD y mo)
  have gL := cLen_hi y mo
  have gL2 := cLen_lo y mo
  refine p_callS (rest := []) hx hb (hml.trans hl.1.symm) hown hk hK k_Rule_53 (ct_Cal_firstDayOf l D tys y mo (by omega) (by omega) (by omega) (by omega)) nil_P nil_D rfl rfl ⟨rfl, rfl⟩ ⟨by decide, by decide, by decide, by decide⟩ (Nat.le_of_ble_eq_true rfl) d_Rule_momentIn_5 ?_
  refine lv_istore_n (lv' := [(2, .int (iI (cFD y mo))), (0, .ref a), (1, .int (iI y))]) hx hb d_Rule_momentIn_8 rfl hl (by decide) rfl (fun ls hl => ?_)
  refine lv_aload_n hx hb d_Rule_momentIn_9 rfl (lv_at hl 1 rfl) ?_
  refine g_get hx hb hk hown hK hP 0 rfl f_Rule_18 rfl d_Rule_momentIn_10 ?_
  refine lv_iload_n hx hb d_Rule_momentIn_13 rfl (lv_at hl 0 rfl) ?_
  refine p_callS (rest := [.int (iI wd)]) hx hb (hml.trans hl.1.symm) hown hk hK k_Rule_56 (ct_Cal_weekdayOf l D tys (cFD y mo) (by omega) (by omega)) nil_P nil_D rfl rfl ⟨rfl, rfl⟩ ⟨by decide, by decide, by decide, by decide⟩ (Nat.le_of_ble_eq_true rfl) d_Rule_momentIn_14 ?_
  refine ri_isub hx hb d_Rule_momentIn_17 ?_
  refine lv_bipush (v := iI 7) hx hb d_Rule_momentIn_18 (by decide) ?_
  refine p_callS (rest := []) hx hb (hml.trans hl.1.symm) hown hk hK k_Rule_59 (ct_Math_floorModI l D tys (wd - (cWd (cFD y mo))) 7 (by omega) (by omega) (by omega) (by omega)) nil_P nil_D rfl rfl ⟨rfl, rfl⟩ ⟨by decide, by decide, by decide, by decide⟩ (Nat.le_of_ble_eq_true rfl) d_Rule_momentIn_20 ?_
  refine lv_istore_n (lv' := [(3, .int (iI ((wd - (cWd (cFD y mo))) % 7))), (2, .int (iI (cFD y mo))), (0, .ref a), (1, .int (iI y))]) hx hb d_Rule_momentIn_23 rfl hl (by decide) rfl (fun ls hl => ?_)
  refine lv_iload_n hx hb d_Rule_momentIn_24 rfl (lv_at hl 0 rfl) ?_
  refine lv_bipush (v := iI 7) hx hb d_Rule_momentIn_25 (by decide) ?_
  refine lv_aload_n hx hb d_Rule_momentIn_27 rfl (lv_at hl 2 rfl) ?_
  refine g_get hx hb hk hown hK hP 0 rfl f_Rule_15 rfl d_Rule_momentIn_28 ?_
  refine lv_iconst (v := iI 1) hx hb d_Rule_momentIn_31 rfl ?_
  refine ri_isub hx hb d_Rule_momentIn_32 ?_
  refine ri_imul hx hb d_Rule_momentIn_33 ?_
  refine ri_iadd hx hb d_Rule_momentIn_34 ?_
  refine lv_istore (lv' := [(4, .int (iI (((wd - (cWd (cFD y mo))) % 7) + (7 * (wk - 1))))), (3, .int (iI ((wd - (cWd (cFD y mo))) % 7))), (2, .int (iI (cFD y mo))), (0, .ref a), (1, .int (iI y))]) hx hb d_Rule_momentIn_35 hl (by decide) rfl (fun ls hl => ?_)
  refine lv_iload hx hb d_Rule_momentIn_37 (lv_at hl 0 rfl) ?_
  refine lv_iload_n hx hb d_Rule_momentIn_39 rfl (lv_at hl 4 rfl) ?_
  refine lv_aload_n hx hb d_Rule_momentIn_40 rfl (lv_at hl 3 rfl) ?_
  refine g_get hx hb hk hown hK hP 0 rfl f_Rule_9 rfl d_Rule_momentIn_41 ?_
  refine p_callS (rest := [.int (iI (((wd - (cWd (cFD y mo))) % 7) + (7 * (wk - 1))))]) hx hb (hml.trans hl.1.symm) hown hk hK k_Rule_62 (ct_Cal_lengthOf l D tys y mo (by omega) (by omega) (by omega) (by omega)) nil_P nil_D rfl rfl ⟨rfl, rfl⟩ ⟨by decide, by decide, by decide, by decide⟩ (Nat.le_of_ble_eq_true rfl) d_Rule_momentIn_44 ?_
  refine ri_icmp_lt (tgt := 53) hx hb d_Rule_momentIn_47 (by decide) (fun h47 => ?_) (fun h47 => ?_)
  · refine lv_iload_n hx hb d_Rule_momentIn_53 rfl (lv_at hl 2 rfl) ?_
    refine lv_iload hx hb d_Rule_momentIn_54 (lv_at hl 0 rfl) ?_
    refine ri_iadd hx hb d_Rule_momentIn_56 ?_
    refine ri_i2l hx hb d_Rule_momentIn_57 ?_
    refine lv_ldc2 (v := lL 86400000) hx hb hown (hk _ kc_Rule_65 _) d_Rule_momentIn_58 ?_
    refine ri_lmul hx hb d_Rule_momentIn_61 ?_
    refine lv_aload_n hx hb d_Rule_momentIn_62 rfl (lv_at hl 3 rfl) ?_
    refine g_get hx hb hk hown hK hP 0 rfl f_Rule_21 rfl d_Rule_momentIn_63 ?_
    refine ri_i2l hx hb d_Rule_momentIn_66 ?_
    refine lv_ldc2 (v := lL 60000) hx hb hown (hk _ kc_Rule_24 _) d_Rule_momentIn_67 ?_
    refine ri_lmul hx hb d_Rule_momentIn_70 ?_
    refine ri_ladd hx hb d_Rule_momentIn_71 ?_
    exact p_lret hx hb hr hlk d_Rule_momentIn_72 (by unfold rMom rDay; first | (rw [if_pos (by unfold rK; omega)]; unfold rK; omega) | (rw [if_neg (by unfold rK; omega)]; unfold rK; omega))
  · refine lv_iinc (k := 0) (v := iI (((wd - (cWd (cFD y mo))) % 7) + (7 * (wk - 1)) - 7)) (lv' := [(4, .int (iI (((wd - (cWd (cFD y mo))) % 7) + (7 * (wk - 1)) - 7))), (3, .int (iI ((wd - (cWd (cFD y mo))) % 7))), (2, .int (iI (cFD y mo))), (0, .ref a), (1, .int (iI y))]) hx hb d_Rule_momentIn_50 hl rfl ((iI_add _ _).trans (congrArg iI (by omega))) (by decide) rfl (fun ls hl => ?_)
    refine lv_iload_n hx hb d_Rule_momentIn_53 rfl (lv_at hl 2 rfl) ?_
    refine lv_iload hx hb d_Rule_momentIn_54 (lv_at hl 0 rfl) ?_
    refine ri_iadd hx hb d_Rule_momentIn_56 ?_
    refine ri_i2l hx hb d_Rule_momentIn_57 ?_
    refine lv_ldc2 (v := lL 86400000) hx hb hown (hk _ kc_Rule_65 _) d_Rule_momentIn_58 ?_
    refine ri_lmul hx hb d_Rule_momentIn_61 ?_
    refine lv_aload_n hx hb d_Rule_momentIn_62 rfl (lv_at hl 3 rfl) ?_
    refine g_get hx hb hk hown hK hP 0 rfl f_Rule_21 rfl d_Rule_momentIn_63 ?_
    refine ri_i2l hx hb d_Rule_momentIn_66 ?_
    refine lv_ldc2 (v := lL 60000) hx hb hown (hk _ kc_Rule_24 _) d_Rule_momentIn_67 ?_
    refine ri_lmul hx hb d_Rule_momentIn_70 ?_
    refine ri_ladd hx hb d_Rule_momentIn_71 ?_
    exact p_lret hx hb hr hlk d_Rule_momentIn_72 (by unfold rMom rDay; first | (rw [if_pos (by unfold rK; omega)]; unfold rK; omega) | (rw [if_neg (by unfold rK; omega)]; unfold rK; omega))
abbrev rm_Rule_lastUpTo : Room := { frames := 3, cells := 0, slots := 0, locals := 71 }
set_option maxHeartbeats 4000000 in
set_option maxRecDepth 100000 in
theorem ct_Rule_lastUpTo (l : Launch) (D : va_G) (tys : List (ClassId × FieldType)) (a : Nat) (mo : Int) (wk : Int) (wd : Int) (mi : Int) (t : Int) (sh : Int) (gr : rOk mo wk wd mi) (gt1 : -100000000000000 ≤ t) (gt2 : t ≤ 100000000000000) (gs1 : -2000 ≤ sh) (gs2 : sh ≤ 2000) (gc1 : -31536000000 ≤ t + sh * 60000) (gc2 : t + sh * 60000 ≤ 10540000000000) : pMet l y_Rule_lastUpTo c_Rule_lastUpTo 7 (some .long) rm_Rule_lastUpTo D tys [.ref a, .long (lL t), .int (iI sh)] [(a, .inr (0, [.int (iI mo), .int (iI wk), .int (iI wd), .int (iI mi)]))] (.long (lL (rLast mo wk wd mi t sh))) := by
  refine pMet_of (by decide) (Nat.le_of_ble_eq_true rfl) ?_
  intro p e s m below meth c hx hb hr hown hlk hml hk hK hP hD ls hl
  have hl : lv_has ls 7 [(0, .ref a), (1, .long (lL t)), (3, .int (iI sh))] := hl
  refine lv_lload_n hx hb d_Rule_lastUpTo_0 rfl (lv_at hl 1 rfl) ?_
  refine lv_iload_n hx hb d_Rule_lastUpTo_1 rfl (lv_at hl 2 rfl) ?_
  refine ri_i2l hx hb d_Rule_lastUpTo_2 ?_
  refine lv_ldc2 (v := lL 60000) hx hb hown (hk _ kc_Rule_24 _) d_Rule_lastUpTo_3 ?_
  refine ri_lmul hx hb d_Rule_lastUpTo_6 ?_
  refine ri_ladd hx hb d_Rule_lastUpTo_7 ?_
  refine lv_lstore (lv' := [(4, .long (lL (t + (sh * 60000)))), (0, .ref a), (1, .long (lL t)), (3, .int (iI sh))]) hx hb d_Rule_lastUpTo_8 hl (by decide) rfl (fun ls hl => ?_)
  refine lv_lload hx hb d_Rule_lastUpTo_10 (lv_at hl 0 rfl) ?_
  refine p_callS (rest := []) hx hb (hml.trans hl.1.symm) hown hk hK k_Rule_26 (ct_Cal_dayAt l D tys (t + (sh * 60000)) (by omega) (by omega)) nil_P nil_D rfl rfl ⟨rfl, rfl⟩ ⟨by decide, by decide, by decide, by decide⟩ (Nat.le_of_ble_eq_true rfl) d_Rule_lastUpTo_12 ?_
  have gY := cY_b (d := (t + sh * 60000) / 86400000) (by omega) (by omega)
  refine p_callS (rest := []) hx hb (hml.trans hl.1.symm) hown hk hK k_Rule_32 (ct_Cal_yearOf l D tys ((t + (sh * 60000)) / 86400000) (by omega) (by omega)) nil_P nil_D rfl rfl ⟨rfl, rfl⟩ ⟨by decide, by decide, by decide, by decide⟩ (Nat.le_of_ble_eq_true rfl) d_Rule_lastUpTo_15 ?_
  refine lv_sipush (v := iI 2299) hx hb d_Rule_lastUpTo_18 (by decide) ?_
  refine p_callS (rest := []) hx hb (hml.trans hl.1.symm) hown hk hK k_Rule_36 (ct_Math_minI l D tys (cY ((t + (sh * 60000)) / 86400000)) 2299 (by omega) (by omega) (by omega) (by omega)) nil_P nil_D rfl rfl ⟨rfl, rfl⟩ ⟨by decide, by decide, by decide, by decide⟩ (Nat.le_of_ble_eq_true rfl) d_Rule_lastUpTo_21 ?_
  refine lv_istore (lv' := [(6, .int (iI (min (cY ((t + (sh * 60000)) / 86400000)) 2299))), (4, .long (lL (t + (sh * 60000)))), (0, .ref a), (1, .long (lL t)), (3, .int (iI sh))]) hx hb d_Rule_lastUpTo_24 hl (by decide) rfl (fun ls hl => ?_)
  refine lv_aload_n hx hb d_Rule_lastUpTo_26 rfl (lv_at hl 2 rfl) ?_
  refine lv_iload hx hb d_Rule_lastUpTo_27 (lv_at hl 0 rfl) ?_
  refine p_callV (rest := []) (q0 := 0) hx hb (hml.trans hl.1.symm) hown hk hK k_Rule_42 (ct_Rule_momentIn l D tys a mo wk wd mi (min (cY ((t + (sh * 60000)) / 86400000)) 2299) gr (by omega) (by omega)) (w_subP (is := [0]) hP rfl) (w_subD (is := [0]) hD rfl rfl) rfl rfl rfl rfl ⟨rfl, rfl⟩ ⟨by decide, by decide, by decide, by decide⟩ (Nat.le_of_ble_eq_true rfl) d_Rule_lastUpTo_29 ?_
  have gM := rMom_bd gr (y := min (cY ((t + sh * 60000) / 86400000)) 2299) (by omega) (by omega)
  refine lv_lload hx hb d_Rule_lastUpTo_32 (lv_at hl 1 rfl) ?_
  refine ri_lcmp_le (tgt := 41) hx hb d_Rule_lastUpTo_34 d_Rule_lastUpTo_35 (by decide) (fun h34 => ?_) (fun h34 => ?_)
  · refine lv_iload hx hb d_Rule_lastUpTo_41 (lv_at hl 0 rfl) ?_
    refine lv_sipush (v := iI 1970) hx hb d_Rule_lastUpTo_43 (by decide) ?_
    refine ri_icmp_ge (tgt := 55) hx hb d_Rule_lastUpTo_46 (by decide) (fun h46 => ?_) (fun h46 => ?_)
    · refine lv_aload_n hx hb d_Rule_lastUpTo_55 rfl (lv_at hl 2 rfl) ?_
      refine lv_iload hx hb d_Rule_lastUpTo_56 (lv_at hl 0 rfl) ?_
      refine p_callV (rest := []) (q0 := 0) hx hb (hml.trans hl.1.symm) hown hk hK k_Rule_42 (ct_Rule_momentIn l D tys a mo wk wd mi (min (cY ((t + (sh * 60000)) / 86400000)) 2299) gr (by omega) (by omega)) (w_subP (is := [0]) hP rfl) (w_subD (is := [0]) hD rfl rfl) rfl rfl rfl rfl ⟨rfl, rfl⟩ ⟨by decide, by decide, by decide, by decide⟩ (Nat.le_of_ble_eq_true rfl) d_Rule_lastUpTo_58 ?_
      refine lv_iload_n hx hb d_Rule_lastUpTo_61 rfl (lv_at hl 4 rfl) ?_
      refine ri_i2l hx hb d_Rule_lastUpTo_62 ?_
      refine lv_ldc2 (v := lL 60000) hx hb hown (hk _ kc_Rule_24 _) d_Rule_lastUpTo_63 ?_
      refine ri_lmul hx hb d_Rule_lastUpTo_66 ?_
      refine ri_lsub hx hb d_Rule_lastUpTo_67 ?_
      exact p_lret hx hb hr hlk d_Rule_lastUpTo_68 (by simp only [rLast]; first | (rw [if_pos (show rMom mo wk wd mi (min (cY ((t + sh * 60000) / 86400000)) 2299) > (t + sh * 60000) by omega), if_pos (show (min (cY ((t + sh * 60000) / 86400000)) 2299) - 1 < 1970 by omega)]; done) | (rw [if_pos (show rMom mo wk wd mi (min (cY ((t + sh * 60000) / 86400000)) 2299) > (t + sh * 60000) by omega), if_neg (show ¬ (min (cY ((t + sh * 60000) / 86400000)) 2299) - 1 < 1970 by omega)]; done) | (rw [if_neg (show ¬ rMom mo wk wd mi (min (cY ((t + sh * 60000) / 86400000)) 2299) > (t + sh * 60000) by omega), if_pos (show (min (cY ((t + sh * 60000) / 86400000)) 2299) < 1970 by omega)]; done) | (rw [if_neg (show ¬ rMom mo wk wd mi (min (cY ((t + sh * 60000) / 86400000)) 2299) > (t + sh * 60000) by omega), if_neg (show ¬ (min (cY ((t + sh * 60000) / 86400000)) 2299) < 1970 by omega)]; done))
    · refine lv_ldc2 (v := lL (-1000000000000000)) hx hb hown (hk _ kc_Rule_46 _) d_Rule_lastUpTo_49 ?_
      refine lv_goto (tgt := 68) hx hb d_Rule_lastUpTo_52 (by decide) ?_
      exact p_lret hx hb hr hlk d_Rule_lastUpTo_68 (by simp only [rLast]; first | (rw [if_pos (show rMom mo wk wd mi (min (cY ((t + sh * 60000) / 86400000)) 2299) > (t + sh * 60000) by omega), if_pos (show (min (cY ((t + sh * 60000) / 86400000)) 2299) - 1 < 1970 by omega)]; done) | (rw [if_pos (show rMom mo wk wd mi (min (cY ((t + sh * 60000) / 86400000)) 2299) > (t + sh * 60000) by omega), if_neg (show ¬ (min (cY ((t + sh * 60000) / 86400000)) 2299) - 1 < 1970 by omega)]; done) | (rw [if_neg (show ¬ rMom mo wk wd mi (min (cY ((t + sh * 60000) / 86400000)) 2299) > (t + sh * 60000) by omega), if_pos (show (min (cY ((t + sh * 60000) / 86400000)) 2299) < 1970 by omega)]; done) | (rw [if_neg (show ¬ rMom mo wk wd mi (min (cY ((t + sh * 60000) / 86400000)) 2299) > (t + sh * 60000) by omega), if_neg (show ¬ (min (cY ((t + sh * 60000) / 86400000)) 2299) < 1970 by omega)]; done))
  · refine lv_iinc (k := 0) (v := iI (min (cY ((t + (sh * 60000)) / 86400000)) 2299 - 1)) (lv' := [(6, .int (iI (min (cY ((t + (sh * 60000)) / 86400000)) 2299 - 1))), (4, .long (lL (t + (sh * 60000)))), (0, .ref a), (1, .long (lL t)), (3, .int (iI sh))]) hx hb d_Rule_lastUpTo_38 hl rfl ((iI_add _ _).trans (congrArg iI (by omega))) (by decide) rfl (fun ls hl => ?_)
    refine lv_iload hx hb d_Rule_lastUpTo_41 (lv_at hl 0 rfl) ?_
    refine lv_sipush (v := iI 1970) hx hb d_Rule_lastUpTo_43 (by decide) ?_
    refine ri_icmp_ge (tgt := 55) hx hb d_Rule_lastUpTo_46 (by decide) (fun h46 => ?_) (fun h46 => ?_)
    · refine lv_aload_n hx hb d_Rule_lastUpTo_55 rfl (lv_at hl 2 rfl) ?_
      refine lv_iload hx hb d_Rule_lastUpTo_56 (lv_at hl 0 rfl) ?_
      refine p_callV (rest := []) (q0 := 0) hx hb (hml.trans hl.1.symm) hown hk hK k_Rule_42 (ct_Rule_momentIn l D tys a mo wk wd mi (min (cY ((t + (sh * 60000)) / 86400000)) 2299 - 1) gr (by omega) (by omega)) (w_subP (is := [0]) hP rfl) (w_subD (is := [0]) hD rfl rfl) rfl rfl rfl rfl ⟨rfl, rfl⟩ ⟨by decide, by decide, by decide, by decide⟩ (Nat.le_of_ble_eq_true rfl) d_Rule_lastUpTo_58 ?_
      refine lv_iload_n hx hb d_Rule_lastUpTo_61 rfl (lv_at hl 4 rfl) ?_
      refine ri_i2l hx hb d_Rule_lastUpTo_62 ?_
      refine lv_ldc2 (v := lL 60000) hx hb hown (hk _ kc_Rule_24 _) d_Rule_lastUpTo_63 ?_
      refine ri_lmul hx hb d_Rule_lastUpTo_66 ?_
      refine ri_lsub hx hb d_Rule_lastUpTo_67 ?_
      exact p_lret hx hb hr hlk d_Rule_lastUpTo_68 (by simp only [rLast]; first | (rw [if_pos (show rMom mo wk wd mi (min (cY ((t + sh * 60000) / 86400000)) 2299) > (t + sh * 60000) by omega), if_pos (show (min (cY ((t + sh * 60000) / 86400000)) 2299) - 1 < 1970 by omega)]; done) | (rw [if_pos (show rMom mo wk wd mi (min (cY ((t + sh * 60000) / 86400000)) 2299) > (t + sh * 60000) by omega), if_neg (show ¬ (min (cY ((t + sh * 60000) / 86400000)) 2299) - 1 < 1970 by omega)]; done) | (rw [if_neg (show ¬ rMom mo wk wd mi (min (cY ((t + sh * 60000) / 86400000)) 2299) > (t + sh * 60000) by omega), if_pos (show (min (cY ((t + sh * 60000) / 86400000)) 2299) < 1970 by omega)]; done) | (rw [if_neg (show ¬ rMom mo wk wd mi (min (cY ((t + sh * 60000) / 86400000)) 2299) > (t + sh * 60000) by omega), if_neg (show ¬ (min (cY ((t + sh * 60000) / 86400000)) 2299) < 1970 by omega)]; done))
    · refine lv_ldc2 (v := lL (-1000000000000000)) hx hb hown (hk _ kc_Rule_46 _) d_Rule_lastUpTo_49 ?_
      refine lv_goto (tgt := 68) hx hb d_Rule_lastUpTo_52 (by decide) ?_
      exact p_lret hx hb hr hlk d_Rule_lastUpTo_68 (by simp only [rLast]; first | (rw [if_pos (show rMom mo wk wd mi (min (cY ((t + sh * 60000) / 86400000)) 2299) > (t + sh * 60000) by omega), if_pos (show (min (cY ((t + sh * 60000) / 86400000)) 2299) - 1 < 1970 by omega)]; done) | (rw [if_pos (show rMom mo wk wd mi (min (cY ((t + sh * 60000) / 86400000)) 2299) > (t + sh * 60000) by omega), if_neg (show ¬ (min (cY ((t + sh * 60000) / 86400000)) 2299) - 1 < 1970 by omega)]; done) | (rw [if_neg (show ¬ rMom mo wk wd mi (min (cY ((t + sh * 60000) / 86400000)) 2299) > (t + sh * 60000) by omega), if_pos (show (min (cY ((t + sh * 60000) / 86400000)) 2299) < 1970 by omega)]; done) | (rw [if_neg (show ¬ rMom mo wk wd mi (min (cY ((t + sh * 60000) / 86400000)) 2299) > (t + sh * 60000) by omega), if_neg (show ¬ (min (cY ((t + sh * 60000) / 86400000)) 2299) < 1970 by omega)]; done))
abbrev rm_Rule_firstBehind : Room := { frames := 3, cells := 0, slots := 0, locals := 71 }
set_option maxHeartbeats 4000000 in
set_option maxRecDepth 100000 in
theorem ct_Rule_firstBehind (l : Launch) (D : va_G) (tys : List (ClassId × FieldType)) (a : Nat) (mo : Int) (wk : Int) (wd : Int) (mi : Int) (t : Int) (sh : Int) (gr : rOk mo wk wd mi) (gt1 : -100000000000000 ≤ t) (gt2 : t ≤ 100000000000000) (gs1 : -2000 ≤ sh) (gs2 : sh ≤ 2000) (gc1 : -31536000000 ≤ t + sh * 60000) (gc2 : t + sh * 60000 ≤ 10540000000000) : pMet l y_Rule_firstBehind c_Rule_firstBehind 7 (some .long) rm_Rule_firstBehind D tys [.ref a, .long (lL t), .int (iI sh)] [(a, .inr (0, [.int (iI mo), .int (iI wk), .int (iI wd), .int (iI mi)]))] (.long (lL (rNext mo wk wd mi t sh))) := by
  refine pMet_of (by decide) (Nat.le_of_ble_eq_true rfl) ?_
  intro p e s m below meth c hx hb hr hown hlk hml hk hK hP hD ls hl
  have hl : lv_has ls 7 [(0, .ref a), (1, .long (lL t)), (3, .int (iI sh))] := hl
  refine lv_lload_n hx hb d_Rule_firstBehind_0 rfl (lv_at hl 1 rfl) ?_
  refine lv_iload_n hx hb d_Rule_firstBehind_1 rfl (lv_at hl 2 rfl) ?_
  refine ri_i2l hx hb d_Rule_firstBehind_2 ?_
  refine lv_ldc2 (v := lL 60000) hx hb hown (hk _ kc_Rule_24 _) d_Rule_firstBehind_3 ?_
  refine ri_lmul hx hb d_Rule_firstBehind_6 ?_
  refine ri_ladd hx hb d_Rule_firstBehind_7 ?_
  refine lv_lstore (lv' := [(4, .long (lL (t + (sh * 60000)))), (0, .ref a), (1, .long (lL t)), (3, .int (iI sh))]) hx hb d_Rule_firstBehind_8 hl (by decide) rfl (fun ls hl => ?_)
  refine lv_lload hx hb d_Rule_firstBehind_10 (lv_at hl 0 rfl) ?_
  refine p_callS (rest := []) hx hb (hml.trans hl.1.symm) hown hk hK k_Rule_26 (ct_Cal_dayAt l D tys (t + (sh * 60000)) (by omega) (by omega)) nil_P nil_D rfl rfl ⟨rfl, rfl⟩ ⟨by decide, by decide, by decide, by decide⟩ (Nat.le_of_ble_eq_true rfl) d_Rule_firstBehind_12 ?_
  have gY := cY_b (d := (t + sh * 60000) / 86400000) (by omega) (by omega)
  refine p_callS (rest := []) hx hb (hml.trans hl.1.symm) hown hk hK k_Rule_32 (ct_Cal_yearOf l D tys ((t + (sh * 60000)) / 86400000) (by omega) (by omega)) nil_P nil_D rfl rfl ⟨rfl, rfl⟩ ⟨by decide, by decide, by decide, by decide⟩ (Nat.le_of_ble_eq_true rfl) d_Rule_firstBehind_15 ?_
  refine lv_sipush (v := iI 1970) hx hb d_Rule_firstBehind_18 (by decide) ?_
  refine p_callS (rest := []) hx hb (hml.trans hl.1.symm) hown hk hK k_Rule_48 (ct_Math_maxI l D tys (cY ((t + (sh * 60000)) / 86400000)) 1970 (by omega) (by omega) (by omega) (by omega)) nil_P nil_D rfl rfl ⟨rfl, rfl⟩ ⟨by decide, by decide, by decide, by decide⟩ (Nat.le_of_ble_eq_true rfl) d_Rule_firstBehind_21 ?_
  refine lv_istore (lv' := [(6, .int (iI (max (cY ((t + (sh * 60000)) / 86400000)) 1970))), (4, .long (lL (t + (sh * 60000)))), (0, .ref a), (1, .long (lL t)), (3, .int (iI sh))]) hx hb d_Rule_firstBehind_24 hl (by decide) rfl (fun ls hl => ?_)
  refine lv_aload_n hx hb d_Rule_firstBehind_26 rfl (lv_at hl 2 rfl) ?_
  refine lv_iload hx hb d_Rule_firstBehind_27 (lv_at hl 0 rfl) ?_
  refine p_callV (rest := []) (q0 := 0) hx hb (hml.trans hl.1.symm) hown hk hK k_Rule_42 (ct_Rule_momentIn l D tys a mo wk wd mi (max (cY ((t + (sh * 60000)) / 86400000)) 1970) gr (by omega) (by omega)) (w_subP (is := [0]) hP rfl) (w_subD (is := [0]) hD rfl rfl) rfl rfl rfl rfl ⟨rfl, rfl⟩ ⟨by decide, by decide, by decide, by decide⟩ (Nat.le_of_ble_eq_true rfl) d_Rule_firstBehind_29 ?_
  have gM := rMom_bd gr (y := max (cY ((t + sh * 60000) / 86400000)) 1970) (by omega) (by omega)
  refine lv_lload hx hb d_Rule_firstBehind_32 (lv_at hl 1 rfl) ?_
  refine ri_lcmp_gt (tgt := 41) hx hb d_Rule_firstBehind_34 d_Rule_firstBehind_35 (by decide) (fun h34 => ?_) (fun h34 => ?_)
  · refine lv_iload hx hb d_Rule_firstBehind_41 (lv_at hl 0 rfl) ?_
    refine lv_sipush (v := iI 2299) hx hb d_Rule_firstBehind_43 (by decide) ?_
    refine ri_icmp_le (tgt := 55) hx hb d_Rule_firstBehind_46 (by decide) (fun h46 => ?_) (fun h46 => ?_)
    · refine lv_aload_n hx hb d_Rule_firstBehind_55 rfl (lv_at hl 2 rfl) ?_
      refine lv_iload hx hb d_Rule_firstBehind_56 (lv_at hl 0 rfl) ?_
      refine p_callV (rest := []) (q0 := 0) hx hb (hml.trans hl.1.symm) hown hk hK k_Rule_42 (ct_Rule_momentIn l D tys a mo wk wd mi (max (cY ((t + (sh * 60000)) / 86400000)) 1970) gr (by omega) (by omega)) (w_subP (is := [0]) hP rfl) (w_subD (is := [0]) hD rfl rfl) rfl rfl rfl rfl ⟨rfl, rfl⟩ ⟨by decide, by decide, by decide, by decide⟩ (Nat.le_of_ble_eq_true rfl) d_Rule_firstBehind_58 ?_
      refine lv_iload_n hx hb d_Rule_firstBehind_61 rfl (lv_at hl 4 rfl) ?_
      refine ri_i2l hx hb d_Rule_firstBehind_62 ?_
      refine lv_ldc2 (v := lL 60000) hx hb hown (hk _ kc_Rule_24 _) d_Rule_firstBehind_63 ?_
      refine ri_lmul hx hb d_Rule_firstBehind_66 ?_
      refine ri_lsub hx hb d_Rule_firstBehind_67 ?_
      exact p_lret hx hb hr hlk d_Rule_firstBehind_68 (by simp only [rNext]; first | (rw [if_pos (show rMom mo wk wd mi (max (cY ((t + sh * 60000) / 86400000)) 1970) ≤ (t + sh * 60000) by omega), if_pos (show (max (cY ((t + sh * 60000) / 86400000)) 1970) + 1 > 2299 by omega)]; done) | (rw [if_pos (show rMom mo wk wd mi (max (cY ((t + sh * 60000) / 86400000)) 1970) ≤ (t + sh * 60000) by omega), if_neg (show ¬ (max (cY ((t + sh * 60000) / 86400000)) 1970) + 1 > 2299 by omega)]; done) | (rw [if_neg (show ¬ rMom mo wk wd mi (max (cY ((t + sh * 60000) / 86400000)) 1970) ≤ (t + sh * 60000) by omega), if_pos (show (max (cY ((t + sh * 60000) / 86400000)) 1970) > 2299 by omega)]; done) | (rw [if_neg (show ¬ rMom mo wk wd mi (max (cY ((t + sh * 60000) / 86400000)) 1970) ≤ (t + sh * 60000) by omega), if_neg (show ¬ (max (cY ((t + sh * 60000) / 86400000)) 1970) > 2299 by omega)]; done))
    · refine lv_ldc2 (v := lL 1000000000000000) hx hb hown (hk _ kc_Rule_51 _) d_Rule_firstBehind_49 ?_
      refine lv_goto (tgt := 68) hx hb d_Rule_firstBehind_52 (by decide) ?_
      exact p_lret hx hb hr hlk d_Rule_firstBehind_68 (by simp only [rNext]; first | (rw [if_pos (show rMom mo wk wd mi (max (cY ((t + sh * 60000) / 86400000)) 1970) ≤ (t + sh * 60000) by omega), if_pos (show (max (cY ((t + sh * 60000) / 86400000)) 1970) + 1 > 2299 by omega)]; done) | (rw [if_pos (show rMom mo wk wd mi (max (cY ((t + sh * 60000) / 86400000)) 1970) ≤ (t + sh * 60000) by omega), if_neg (show ¬ (max (cY ((t + sh * 60000) / 86400000)) 1970) + 1 > 2299 by omega)]; done) | (rw [if_neg (show ¬ rMom mo wk wd mi (max (cY ((t + sh * 60000) / 86400000)) 1970) ≤ (t + sh * 60000) by omega), if_pos (show (max (cY ((t + sh * 60000) / 86400000)) 1970) > 2299 by omega)]; done) | (rw [if_neg (show ¬ rMom mo wk wd mi (max (cY ((t + sh * 60000) / 86400000)) 1970) ≤ (t + sh * 60000) by omega), if_neg (show ¬ (max (cY ((t + sh * 60000) / 86400000)) 1970) > 2299 by omega)]; done))
  · refine lv_iinc (k := 0) (v := iI (max (cY ((t + (sh * 60000)) / 86400000)) 1970 + 1)) (lv' := [(6, .int (iI (max (cY ((t + (sh * 60000)) / 86400000)) 1970 + 1))), (4, .long (lL (t + (sh * 60000)))), (0, .ref a), (1, .long (lL t)), (3, .int (iI sh))]) hx hb d_Rule_firstBehind_38 hl rfl (iI_add _ _) (by decide) rfl (fun ls hl => ?_)
    refine lv_iload hx hb d_Rule_firstBehind_41 (lv_at hl 0 rfl) ?_
    refine lv_sipush (v := iI 2299) hx hb d_Rule_firstBehind_43 (by decide) ?_
    refine ri_icmp_le (tgt := 55) hx hb d_Rule_firstBehind_46 (by decide) (fun h46 => ?_) (fun h46 => ?_)
    · refine lv_aload_n hx hb d_Rule_firstBehind_55 rfl (lv_at hl 2 rfl) ?_
      refine lv_iload hx hb d_Rule_firstBehind_56 (lv_at hl 0 rfl) ?_
      refine p_callV (rest := []) (q0 := 0) hx hb (hml.trans hl.1.symm) hown hk hK k_Rule_42 (ct_Rule_momentIn l D tys a mo wk wd mi (max (cY ((t + (sh * 60000)) / 86400000)) 1970 + 1) gr (by omega) (by omega)) (w_subP (is := [0]) hP rfl) (w_subD (is := [0]) hD rfl rfl) rfl rfl rfl rfl ⟨rfl, rfl⟩ ⟨by decide, by decide, by decide, by decide⟩ (Nat.le_of_ble_eq_true rfl) d_Rule_firstBehind_58 ?_
      refine lv_iload_n hx hb d_Rule_firstBehind_61 rfl (lv_at hl 4 rfl) ?_
      refine ri_i2l hx hb d_Rule_firstBehind_62 ?_
      refine lv_ldc2 (v := lL 60000) hx hb hown (hk _ kc_Rule_24 _) d_Rule_firstBehind_63 ?_
      refine ri_lmul hx hb d_Rule_firstBehind_66 ?_
      refine ri_lsub hx hb d_Rule_firstBehind_67 ?_
      exact p_lret hx hb hr hlk d_Rule_firstBehind_68 (by simp only [rNext]; first | (rw [if_pos (show rMom mo wk wd mi (max (cY ((t + sh * 60000) / 86400000)) 1970) ≤ (t + sh * 60000) by omega), if_pos (show (max (cY ((t + sh * 60000) / 86400000)) 1970) + 1 > 2299 by omega)]; done) | (rw [if_pos (show rMom mo wk wd mi (max (cY ((t + sh * 60000) / 86400000)) 1970) ≤ (t + sh * 60000) by omega), if_neg (show ¬ (max (cY ((t + sh * 60000) / 86400000)) 1970) + 1 > 2299 by omega)]; done) | (rw [if_neg (show ¬ rMom mo wk wd mi (max (cY ((t + sh * 60000) / 86400000)) 1970) ≤ (t + sh * 60000) by omega), if_pos (show (max (cY ((t + sh * 60000) / 86400000)) 1970) > 2299 by omega)]; done) | (rw [if_neg (show ¬ rMom mo wk wd mi (max (cY ((t + sh * 60000) / 86400000)) 1970) ≤ (t + sh * 60000) by omega), if_neg (show ¬ (max (cY ((t + sh * 60000) / 86400000)) 1970) > 2299 by omega)]; done))
    · refine lv_ldc2 (v := lL 1000000000000000) hx hb hown (hk _ kc_Rule_51 _) d_Rule_firstBehind_49 ?_
      refine lv_goto (tgt := 68) hx hb d_Rule_firstBehind_52 (by decide) ?_
      exact p_lret hx hb hr hlk d_Rule_firstBehind_68 (by simp only [rNext]; first | (rw [if_pos (show rMom mo wk wd mi (max (cY ((t + sh * 60000) / 86400000)) 1970) ≤ (t + sh * 60000) by omega), if_pos (show (max (cY ((t + sh * 60000) / 86400000)) 1970) + 1 > 2299 by omega)]; done) | (rw [if_pos (show rMom mo wk wd mi (max (cY ((t + sh * 60000) / 86400000)) 1970) ≤ (t + sh * 60000) by omega), if_neg (show ¬ (max (cY ((t + sh * 60000) / 86400000)) 1970) + 1 > 2299 by omega)]; done) | (rw [if_neg (show ¬ rMom mo wk wd mi (max (cY ((t + sh * 60000) / 86400000)) 1970) ≤ (t + sh * 60000) by omega), if_pos (show (max (cY ((t + sh * 60000) / 86400000)) 1970) > 2299 by omega)]; done) | (rw [if_neg (show ¬ rMom mo wk wd mi (max (cY ((t + sh * 60000) / 86400000)) 1970) ≤ (t + sh * 60000) by omega), if_neg (show ¬ (max (cY ((t + sh * 60000) / 86400000)) 1970) > 2299 by omega)]; done))
end
section
/-! Contracts: Zone's readers. By program (wip/whole/m_zone.py). -/
abbrev rm_Zone_isSummer : Room := { frames := 4, cells := 0, slots := 0, locals := 97 }
set_option maxHeartbeats 4000000 in
set_option maxRecDepth 100000 in
theorem ct_Zone_isSummer (l : Launch) (D : va_G) (tys : List (ClassId × FieldType)) (z : Nat) (b0 : Nat) (e0 : Nat) (off : Int) (sv : Int) (b1 : Int) (b2 : Int) (b3 : Int) (b4 : Int) (e1 : Int) (e2 : Int) (e3 : Int) (e4 : Int) (t : Int) (go1 : -840 ≤ off) (go2 : off ≤ 840) (gs1 : 0 ≤ sv) (gs2 : sv ≤ 120) (gb : 0 < sv → rOk b1 b2 b3 b4) (ge : 0 < sv → rOk e1 e2 e3 e4) (gt1 : -60000000 ≤ t) (gt2 : t ≤ 10413900000000) : pMet l y_Zone_isSummer c_Zone_isSummer 3 (some .boolean) rm_Zone_isSummer D tys [.ref z, .long (lL t)] [(z, .inr (2, [.int (iI off), .int (iI sv), .ref b0, .ref e0])), (b0, .inr (0, [.int (iI b1), .int (iI b2), .int (iI b3), .int (iI b4)])), (e0, .inr (0, [.int (iI e1), .int (iI e2), .int (iI e3), .int (iI e4)]))] (.int (iI (bI (cSum off sv (b1, b2, b3, b4) (e1, e2, e3, e4) (t))))) := by
  refine pMet_of (by decide) (Nat.le_of_ble_eq_true rfl) ?_
  intro p e s m below meth c hx hb hr hown hlk hml hk hK hP hD ls hl
  have hl : lv_has ls 3 [(0, .ref z), (1, .long (lL t))] := hl
  refine lv_aload_n hx hb d_Zone_isSummer_0 rfl (lv_at hl 0 rfl) ?_
  refine g_get hx hb hk hown hK hP 0 rfl f_Zone_25 rfl d_Zone_isSummer_1 ?_
  refine ri_if_le (tgt := 44) hx hb d_Zone_isSummer_4 (by decide) (fun h4 => ?_) (fun h4 => ?_)
  · refine lv_iconst (v := iI 0) hx hb d_Zone_isSummer_44 rfl ?_
    exact p_zret hx hb hr hlk d_Zone_isSummer_45 (by first | (show 0 = bI (decide (0 < sv) && decide (rLast e1 e2 e3 e4 t (off + sv) < rLast b1 b2 b3 b4 t off)); rw [decide_eq_false (show ¬ 0 < sv by omega)]; rfl) | (show 1 = bI (decide (0 < sv) && decide (rLast e1 e2 e3 e4 t (off + sv) < rLast b1 b2 b3 b4 t off)); rw [decide_eq_true (show 0 < sv by omega), decide_eq_true (show rLast e1 e2 e3 e4 t (off + sv) < rLast b1 b2 b3 b4 t off by omega)]; rfl) | (show 0 = bI (decide (0 < sv) && decide (rLast e1 e2 e3 e4 t (off + sv) < rLast b1 b2 b3 b4 t off)); rw [decide_eq_true (show 0 < sv by omega), decide_eq_false (show ¬ rLast e1 e2 e3 e4 t (off + sv) < rLast b1 b2 b3 b4 t off by omega)]; rfl)) (by omega)
  · have gB := gb (by omega)
    have gE := ge (by omega)
    have q1 := rLast_bd gB (t := t) (sh := off) (by omega) (by omega) (by omega) (by omega)
    have q2 := rLast_bd gE (t := t) (sh := off + sv) (by omega) (by omega) (by omega) (by omega)
    refine lv_aload_n hx hb d_Zone_isSummer_7 rfl (lv_at hl 0 rfl) ?_
    refine g_get hx hb hk hown hK hP 0 rfl f_Zone_12 rfl d_Zone_isSummer_8 ?_
    refine lv_lload_n hx hb d_Zone_isSummer_11 rfl (lv_at hl 1 rfl) ?_
    refine lv_aload_n hx hb d_Zone_isSummer_12 rfl (lv_at hl 0 rfl) ?_
    refine g_get hx hb hk hown hK hP 0 rfl f_Zone_21 rfl d_Zone_isSummer_13 ?_
    refine p_callV (rest := []) (q0 := 0) hx hb (hml.trans hl.1.symm) hown hk hK k_Zone_32 (ct_Rule_lastUpTo l D tys b0 b1 b2 b3 b4 t off gB (by omega) (by omega) (by omega) (by omega) (by omega) (by omega)) (w_subP (is := [1]) hP rfl) (w_subD (is := [1]) hD rfl rfl) rfl rfl rfl rfl ⟨rfl, rfl⟩ ⟨by decide, by decide, by decide, by decide⟩ (Nat.le_of_ble_eq_true rfl) d_Zone_isSummer_16 ?_
    refine lv_aload_n hx hb d_Zone_isSummer_19 rfl (lv_at hl 0 rfl) ?_
    refine g_get hx hb hk hown hK hP 0 rfl f_Zone_18 rfl d_Zone_isSummer_20 ?_
    refine lv_lload_n hx hb d_Zone_isSummer_23 rfl (lv_at hl 1 rfl) ?_
    refine lv_aload_n hx hb d_Zone_isSummer_24 rfl (lv_at hl 0 rfl) ?_
    refine g_get hx hb hk hown hK hP 0 rfl f_Zone_21 rfl d_Zone_isSummer_25 ?_
    refine lv_aload_n hx hb d_Zone_isSummer_28 rfl (lv_at hl 0 rfl) ?_
    refine g_get hx hb hk hown hK hP 0 rfl f_Zone_25 rfl d_Zone_isSummer_29 ?_
    refine ri_iadd hx hb d_Zone_isSummer_32 ?_
    refine p_callV (rest := [.long (lL (rLast b1 b2 b3 b4 t off))]) (q0 := 0) hx hb (hml.trans hl.1.symm) hown hk hK k_Zone_32 (ct_Rule_lastUpTo l D tys e0 e1 e2 e3 e4 t (off + sv) gE (by omega) (by omega) (by omega) (by omega) (by omega) (by omega)) (w_subP (is := [2]) hP rfl) (w_subD (is := [2]) hD rfl rfl) rfl rfl rfl rfl ⟨rfl, rfl⟩ ⟨by decide, by decide, by decide, by decide⟩ (Nat.le_of_ble_eq_true rfl) d_Zone_isSummer_33 ?_
    refine ri_lcmp_le (tgt := 44) hx hb d_Zone_isSummer_36 d_Zone_isSummer_37 (by decide) (fun h36 => ?_) (fun h36 => ?_)
    · refine lv_iconst (v := iI 0) hx hb d_Zone_isSummer_44 rfl ?_
      exact p_zret hx hb hr hlk d_Zone_isSummer_45 (by first | (show 0 = bI (decide (0 < sv) && decide (rLast e1 e2 e3 e4 t (off + sv) < rLast b1 b2 b3 b4 t off)); rw [decide_eq_false (show ¬ 0 < sv by omega)]; rfl) | (show 1 = bI (decide (0 < sv) && decide (rLast e1 e2 e3 e4 t (off + sv) < rLast b1 b2 b3 b4 t off)); rw [decide_eq_true (show 0 < sv by omega), decide_eq_true (show rLast e1 e2 e3 e4 t (off + sv) < rLast b1 b2 b3 b4 t off by omega)]; rfl) | (show 0 = bI (decide (0 < sv) && decide (rLast e1 e2 e3 e4 t (off + sv) < rLast b1 b2 b3 b4 t off)); rw [decide_eq_true (show 0 < sv by omega), decide_eq_false (show ¬ rLast e1 e2 e3 e4 t (off + sv) < rLast b1 b2 b3 b4 t off by omega)]; rfl)) (by omega)
    · refine lv_iconst (v := iI 1) hx hb d_Zone_isSummer_40 rfl ?_
      refine lv_goto (tgt := 45) hx hb d_Zone_isSummer_41 (by decide) ?_
      exact p_zret hx hb hr hlk d_Zone_isSummer_45 (by first | (show 0 = bI (decide (0 < sv) && decide (rLast e1 e2 e3 e4 t (off + sv) < rLast b1 b2 b3 b4 t off)); rw [decide_eq_false (show ¬ 0 < sv by omega)]; rfl) | (show 1 = bI (decide (0 < sv) && decide (rLast e1 e2 e3 e4 t (off + sv) < rLast b1 b2 b3 b4 t off)); rw [decide_eq_true (show 0 < sv by omega), decide_eq_true (show rLast e1 e2 e3 e4 t (off + sv) < rLast b1 b2 b3 b4 t off by omega)]; rfl) | (show 0 = bI (decide (0 < sv) && decide (rLast e1 e2 e3 e4 t (off + sv) < rLast b1 b2 b3 b4 t off)); rw [decide_eq_true (show 0 < sv by omega), decide_eq_false (show ¬ rLast e1 e2 e3 e4 t (off + sv) < rLast b1 b2 b3 b4 t off by omega)]; rfl)) (by omega)
abbrev rm_Zone_fromPlainReading : Room := { frames := 0, cells := 0, slots := 0, locals := 0 }
set_option maxHeartbeats 4000000 in
set_option maxRecDepth 100000 in
theorem ct_Zone_fromPlainReading (l : Launch) (D : va_G) (tys : List (ClassId × FieldType)) (z : Nat) (b0 : Nat) (e0 : Nat) (off : Int) (sv : Int) (b1 : Int) (b2 : Int) (b3 : Int) (b4 : Int) (e1 : Int) (e2 : Int) (e3 : Int) (e4 : Int) (t : Int) (go1 : -840 ≤ off) (go2 : off ≤ 840) (gs1 : 0 ≤ sv) (gs2 : sv ≤ 120) (gt1 : -60000000 ≤ t) (gt2 : t ≤ 10413900000000) : pMet l y_Zone_fromPlainReading c_Zone_fromPlainReading 3 (some .long) rm_Zone_fromPlainReading D tys [.ref z, .long (lL t)] [(z, .inr (2, [.int (iI off), .int (iI sv), .ref b0, .ref e0])), (b0, .inr (0, [.int (iI b1), .int (iI b2), .int (iI b3), .int (iI b4)])), (e0, .inr (0, [.int (iI e1), .int (iI e2), .int (iI e3), .int (iI e4)]))] (.long (lL (t - off * 60000))) := by
  refine pMet_of (by decide) (Nat.le_of_ble_eq_true rfl) ?_
  intro p e s m below meth c hx hb hr hown hlk hml hk hK hP hD ls hl
  have hl : lv_has ls 3 [(0, .ref z), (1, .long (lL t))] := hl
  refine lv_lload_n hx hb d_Zone_fromPlainReading_0 rfl (lv_at hl 1 rfl) ?_
  refine lv_aload_n hx hb d_Zone_fromPlainReading_1 rfl (lv_at hl 0 rfl) ?_
  refine g_get hx hb hk hown hK hP 0 rfl f_Zone_21 rfl d_Zone_fromPlainReading_2 ?_
  refine ri_i2l hx hb d_Zone_fromPlainReading_5 ?_
  refine lv_ldc2 (v := lL 60000) hx hb hown (hk _ kc_Zone_40 _) d_Zone_fromPlainReading_6 ?_
  refine ri_lmul hx hb d_Zone_fromPlainReading_9 ?_
  refine ri_lsub hx hb d_Zone_fromPlainReading_10 ?_
  exact p_lret hx hb hr hlk d_Zone_fromPlainReading_11 (by rfl)
abbrev rm_Zone_fromSummerReading : Room := { frames := 0, cells := 0, slots := 0, locals := 0 }
set_option maxHeartbeats 4000000 in
set_option maxRecDepth 100000 in
theorem ct_Zone_fromSummerReading (l : Launch) (D : va_G) (tys : List (ClassId × FieldType)) (z : Nat) (b0 : Nat) (e0 : Nat) (off : Int) (sv : Int) (b1 : Int) (b2 : Int) (b3 : Int) (b4 : Int) (e1 : Int) (e2 : Int) (e3 : Int) (e4 : Int) (t : Int) (go1 : -840 ≤ off) (go2 : off ≤ 840) (gs1 : 0 ≤ sv) (gs2 : sv ≤ 120) (gt1 : -60000000 ≤ t) (gt2 : t ≤ 10413900000000) : pMet l y_Zone_fromSummerReading c_Zone_fromSummerReading 3 (some .long) rm_Zone_fromSummerReading D tys [.ref z, .long (lL t)] [(z, .inr (2, [.int (iI off), .int (iI sv), .ref b0, .ref e0])), (b0, .inr (0, [.int (iI b1), .int (iI b2), .int (iI b3), .int (iI b4)])), (e0, .inr (0, [.int (iI e1), .int (iI e2), .int (iI e3), .int (iI e4)]))] (.long (lL (t - (off + sv) * 60000))) := by
  refine pMet_of (by decide) (Nat.le_of_ble_eq_true rfl) ?_
  intro p e s m below meth c hx hb hr hown hlk hml hk hK hP hD ls hl
  have hl : lv_has ls 3 [(0, .ref z), (1, .long (lL t))] := hl
  refine lv_lload_n hx hb d_Zone_fromSummerReading_0 rfl (lv_at hl 1 rfl) ?_
  refine lv_aload_n hx hb d_Zone_fromSummerReading_1 rfl (lv_at hl 0 rfl) ?_
  refine g_get hx hb hk hown hK hP 0 rfl f_Zone_21 rfl d_Zone_fromSummerReading_2 ?_
  refine lv_aload_n hx hb d_Zone_fromSummerReading_5 rfl (lv_at hl 0 rfl) ?_
  refine g_get hx hb hk hown hK hP 0 rfl f_Zone_25 rfl d_Zone_fromSummerReading_6 ?_
  refine ri_iadd hx hb d_Zone_fromSummerReading_9 ?_
  refine ri_i2l hx hb d_Zone_fromSummerReading_10 ?_
  refine lv_ldc2 (v := lL 60000) hx hb hown (hk _ kc_Zone_40 _) d_Zone_fromSummerReading_11 ?_
  refine ri_lmul hx hb d_Zone_fromSummerReading_14 ?_
  refine ri_lsub hx hb d_Zone_fromSummerReading_15 ?_
  exact p_lret hx hb hr hlk d_Zone_fromSummerReading_16 (by rfl)
abbrev rm_Zone_minutesAt : Room := { frames := 5, cells := 0, slots := 0, locals := 119 }
set_option maxHeartbeats 4000000 in
set_option maxRecDepth 100000 in
theorem ct_Zone_minutesAt (l : Launch) (D : va_G) (tys : List (ClassId × FieldType)) (z : Nat) (b0 : Nat) (e0 : Nat) (off : Int) (sv : Int) (b1 : Int) (b2 : Int) (b3 : Int) (b4 : Int) (e1 : Int) (e2 : Int) (e3 : Int) (e4 : Int) (t : Int) (go1 : -840 ≤ off) (go2 : off ≤ 840) (gs1 : 0 ≤ sv) (gs2 : sv ≤ 120) (gb : 0 < sv → rOk b1 b2 b3 b4) (ge : 0 < sv → rOk e1 e2 e3 e4) (gt1 : -60000000 ≤ t) (gt2 : t ≤ 10413900000000) : pMet l y_Zone_minutesAt c_Zone_minutesAt 3 (some .int) rm_Zone_minutesAt D tys [.ref z, .long (lL t)] [(z, .inr (2, [.int (iI off), .int (iI sv), .ref b0, .ref e0])), (b0, .inr (0, [.int (iI b1), .int (iI b2), .int (iI b3), .int (iI b4)])), (e0, .inr (0, [.int (iI e1), .int (iI e2), .int (iI e3), .int (iI e4)]))] (.int (iI (cMin off sv (b1, b2, b3, b4) (e1, e2, e3, e4) t))) := by
  refine pMet_of (by decide) (Nat.le_of_ble_eq_true rfl) ?_
  intro p e s m below meth c hx hb hr hown hlk hml hk hK hP hD ls hl
  have hl : lv_has ls 3 [(0, .ref z), (1, .long (lL t))] := hl
  refine lv_aload_n hx hb d_Zone_minutesAt_0 rfl (lv_at hl 0 rfl) ?_
  refine lv_lload_n hx hb d_Zone_minutesAt_1 rfl (lv_at hl 1 rfl) ?_
  refine p_callV (rest := []) (q0 := 0) hx hb (hml.trans hl.1.symm) hown hk hK k_Zone_36 (ct_Zone_isSummer l D tys z b0 e0 off sv b1 b2 b3 b4 e1 e2 e3 e4 t (by omega) (by omega) (by omega) (by omega) gb ge (by omega) (by omega)) (w_subP (is := [0, 1, 2]) hP rfl) (w_subD (is := [0, 1, 2]) hD rfl rfl) rfl rfl rfl rfl ⟨rfl, rfl⟩ ⟨by decide, by decide, by decide, by decide⟩ (Nat.le_of_ble_eq_true rfl) d_Zone_minutesAt_2 ?_
  have gB := bI_b (cSum off sv (b1, b2, b3, b4) (e1, e2, e3, e4) (t))
  refine ri_if_eq (tgt := 20) hx hb d_Zone_minutesAt_5 (by decide) (fun h5 => ?_) (fun h5 => ?_)
  · refine lv_aload_n hx hb d_Zone_minutesAt_20 rfl (lv_at hl 0 rfl) ?_
    refine g_get hx hb hk hown hK hP 0 rfl f_Zone_21 rfl d_Zone_minutesAt_21 ?_
    exact p_iret hx hb hr hlk d_Zone_minutesAt_24 (by unfold cMin; first | (rw [bI_e0 h5]; rfl) | (rw [bI_e1 h5]; rfl))
  · refine lv_aload_n hx hb d_Zone_minutesAt_8 rfl (lv_at hl 0 rfl) ?_
    refine g_get hx hb hk hown hK hP 0 rfl f_Zone_21 rfl d_Zone_minutesAt_9 ?_
    refine lv_aload_n hx hb d_Zone_minutesAt_12 rfl (lv_at hl 0 rfl) ?_
    refine g_get hx hb hk hown hK hP 0 rfl f_Zone_25 rfl d_Zone_minutesAt_13 ?_
    refine ri_iadd hx hb d_Zone_minutesAt_16 ?_
    refine lv_goto (tgt := 24) hx hb d_Zone_minutesAt_17 (by decide) ?_
    exact p_iret hx hb hr hlk d_Zone_minutesAt_24 (by unfold cMin; first | (rw [bI_e0 h5]; rfl) | (rw [bI_e1 h5]; rfl))
abbrev rm_Zone_isReadInSummer : Room := { frames := 5, cells := 0, slots := 0, locals := 119 }
set_option maxHeartbeats 4000000 in
set_option maxRecDepth 100000 in
theorem ct_Zone_isReadInSummer (l : Launch) (D : va_G) (tys : List (ClassId × FieldType)) (z : Nat) (b0 : Nat) (e0 : Nat) (off : Int) (sv : Int) (b1 : Int) (b2 : Int) (b3 : Int) (b4 : Int) (e1 : Int) (e2 : Int) (e3 : Int) (e4 : Int) (t : Int) (go1 : -840 ≤ off) (go2 : off ≤ 840) (gs1 : 0 ≤ sv) (gs2 : sv ≤ 120) (gb : 0 < sv → rOk b1 b2 b3 b4) (ge : 0 < sv → rOk e1 e2 e3 e4) (gt1 : 0 ≤ t) (gt2 : t ≤ 10413791999999) : pMet l y_Zone_isReadInSummer c_Zone_isReadInSummer 3 (some .boolean) rm_Zone_isReadInSummer D tys [.ref z, .long (lL t)] [(z, .inr (2, [.int (iI off), .int (iI sv), .ref b0, .ref e0])), (b0, .inr (0, [.int (iI b1), .int (iI b2), .int (iI b3), .int (iI b4)])), (e0, .inr (0, [.int (iI e1), .int (iI e2), .int (iI e3), .int (iI e4)]))] (.int (iI (bI (cSum off sv (b1, b2, b3, b4) (e1, e2, e3, e4) (t - (off + sv) * 60000))))) := by
  refine pMet_of (by decide) (Nat.le_of_ble_eq_true rfl) ?_
  intro p e s m below meth c hx hb hr hown hlk hml hk hK hP hD ls hl
  have hl : lv_has ls 3 [(0, .ref z), (1, .long (lL t))] := hl
  refine lv_aload_n hx hb d_Zone_isReadInSummer_0 rfl (lv_at hl 0 rfl) ?_
  refine lv_aload_n hx hb d_Zone_isReadInSummer_1 rfl (lv_at hl 0 rfl) ?_
  refine lv_lload_n hx hb d_Zone_isReadInSummer_2 rfl (lv_at hl 1 rfl) ?_
  refine p_callV (rest := [.ref z]) (q0 := 0) hx hb (hml.trans hl.1.symm) hown hk hK k_Zone_46 (ct_Zone_fromSummerReading l D tys z b0 e0 off sv b1 b2 b3 b4 e1 e2 e3 e4 t (by omega) (by omega) (by omega) (by omega) (by omega) (by omega)) (w_subP (is := [0, 1, 2]) hP rfl) (w_subD (is := [0, 1, 2]) hD rfl rfl) rfl rfl rfl rfl ⟨rfl, rfl⟩ ⟨by decide, by decide, by decide, by decide⟩ (Nat.le_of_ble_eq_true rfl) d_Zone_isReadInSummer_3 ?_
  refine p_callV (rest := []) (q0 := 0) hx hb (hml.trans hl.1.symm) hown hk hK k_Zone_36 (ct_Zone_isSummer l D tys z b0 e0 off sv b1 b2 b3 b4 e1 e2 e3 e4 (t - (off + sv) * 60000) (by omega) (by omega) (by omega) (by omega) gb ge (by omega) (by omega)) (w_subP (is := [0, 1, 2]) hP rfl) (w_subD (is := [0, 1, 2]) hD rfl rfl) rfl rfl rfl rfl ⟨rfl, rfl⟩ ⟨by decide, by decide, by decide, by decide⟩ (Nat.le_of_ble_eq_true rfl) d_Zone_isReadInSummer_6 ?_
  exact p_zret hx hb hr hlk d_Zone_isReadInSummer_9 (by rfl) (bI_01 _)
abbrev rm_Zone_isReadOutsideSummer : Room := { frames := 5, cells := 0, slots := 0, locals := 119 }
set_option maxHeartbeats 4000000 in
set_option maxRecDepth 100000 in
theorem ct_Zone_isReadOutsideSummer (l : Launch) (D : va_G) (tys : List (ClassId × FieldType)) (z : Nat) (b0 : Nat) (e0 : Nat) (off : Int) (sv : Int) (b1 : Int) (b2 : Int) (b3 : Int) (b4 : Int) (e1 : Int) (e2 : Int) (e3 : Int) (e4 : Int) (t : Int) (go1 : -840 ≤ off) (go2 : off ≤ 840) (gs1 : 0 ≤ sv) (gs2 : sv ≤ 120) (gb : 0 < sv → rOk b1 b2 b3 b4) (ge : 0 < sv → rOk e1 e2 e3 e4) (gt1 : 0 ≤ t) (gt2 : t ≤ 10413791999999) : pMet l y_Zone_isReadOutsideSummer c_Zone_isReadOutsideSummer 3 (some .boolean) rm_Zone_isReadOutsideSummer D tys [.ref z, .long (lL t)] [(z, .inr (2, [.int (iI off), .int (iI sv), .ref b0, .ref e0])), (b0, .inr (0, [.int (iI b1), .int (iI b2), .int (iI b3), .int (iI b4)])), (e0, .inr (0, [.int (iI e1), .int (iI e2), .int (iI e3), .int (iI e4)]))] (.int (iI (bI (!cSum off sv (b1, b2, b3, b4) (e1, e2, e3, e4) (t - off * 60000))))) := by
  refine pMet_of (by decide) (Nat.le_of_ble_eq_true rfl) ?_
  intro p e s m below meth c hx hb hr hown hlk hml hk hK hP hD ls hl
  have hl : lv_has ls 3 [(0, .ref z), (1, .long (lL t))] := hl
  refine lv_aload_n hx hb d_Zone_isReadOutsideSummer_0 rfl (lv_at hl 0 rfl) ?_
  refine lv_aload_n hx hb d_Zone_isReadOutsideSummer_1 rfl (lv_at hl 0 rfl) ?_
  refine lv_lload_n hx hb d_Zone_isReadOutsideSummer_2 rfl (lv_at hl 1 rfl) ?_
  refine p_callV (rest := [.ref z]) (q0 := 0) hx hb (hml.trans hl.1.symm) hown hk hK k_Zone_42 (ct_Zone_fromPlainReading l D tys z b0 e0 off sv b1 b2 b3 b4 e1 e2 e3 e4 t (by omega) (by omega) (by omega) (by omega) (by omega) (by omega)) (w_subP (is := [0, 1, 2]) hP rfl) (w_subD (is := [0, 1, 2]) hD rfl rfl) rfl rfl rfl rfl ⟨rfl, rfl⟩ ⟨by decide, by decide, by decide, by decide⟩ (Nat.le_of_ble_eq_true rfl) d_Zone_isReadOutsideSummer_3 ?_
  refine p_callV (rest := []) (q0 := 0) hx hb (hml.trans hl.1.symm) hown hk hK k_Zone_36 (ct_Zone_isSummer l D tys z b0 e0 off sv b1 b2 b3 b4 e1 e2 e3 e4 (t - off * 60000) (by omega) (by omega) (by omega) (by omega) gb ge (by omega) (by omega)) (w_subP (is := [0, 1, 2]) hP rfl) (w_subD (is := [0, 1, 2]) hD rfl rfl) rfl rfl rfl rfl ⟨rfl, rfl⟩ ⟨by decide, by decide, by decide, by decide⟩ (Nat.le_of_ble_eq_true rfl) d_Zone_isReadOutsideSummer_6 ?_
  have gB := bI_b (cSum off sv (b1, b2, b3, b4) (e1, e2, e3, e4) (t - off * 60000))
  refine ri_if_ne (tgt := 16) hx hb d_Zone_isReadOutsideSummer_9 (by decide) (fun h9 => ?_) (fun h9 => ?_)
  · refine lv_iconst (v := iI 0) hx hb d_Zone_isReadOutsideSummer_16 rfl ?_
    exact p_zret hx hb hr hlk d_Zone_isReadOutsideSummer_17 (by first | (rw [bI_e0 h9]; rfl) | (rw [bI_e1 h9]; rfl)) (by omega)
  · refine lv_iconst (v := iI 1) hx hb d_Zone_isReadOutsideSummer_12 rfl ?_
    refine lv_goto (tgt := 17) hx hb d_Zone_isReadOutsideSummer_13 (by decide) ?_
    exact p_zret hx hb hr hlk d_Zone_isReadOutsideSummer_17 (by first | (rw [bI_e0 h9]; rfl) | (rw [bI_e1 h9]; rfl)) (by omega)
abbrev rm_Zone_lastChangeUpTo : Room := { frames := 4, cells := 0, slots := 0, locals := 97 }
set_option maxHeartbeats 4000000 in
set_option maxRecDepth 100000 in
theorem ct_Zone_lastChangeUpTo (l : Launch) (D : va_G) (tys : List (ClassId × FieldType)) (z : Nat) (b0 : Nat) (e0 : Nat) (off : Int) (sv : Int) (b1 : Int) (b2 : Int) (b3 : Int) (b4 : Int) (e1 : Int) (e2 : Int) (e3 : Int) (e4 : Int) (t : Int) (go1 : -840 ≤ off) (go2 : off ≤ 840) (gs1 : 0 ≤ sv) (gs2 : sv ≤ 120) (gb : 0 < sv → rOk b1 b2 b3 b4) (ge : 0 < sv → rOk e1 e2 e3 e4) (gt1 : -60000000 ≤ t) (gt2 : t ≤ 10413900000000) : pMet l y_Zone_lastChangeUpTo c_Zone_lastChangeUpTo 3 (some .long) rm_Zone_lastChangeUpTo D tys [.ref z, .long (lL t)] [(z, .inr (2, [.int (iI off), .int (iI sv), .ref b0, .ref e0])), (b0, .inr (0, [.int (iI b1), .int (iI b2), .int (iI b3), .int (iI b4)])), (e0, .inr (0, [.int (iI e1), .int (iI e2), .int (iI e3), .int (iI e4)]))] (.long (lL (cBack off sv (b1, b2, b3, b4) (e1, e2, e3, e4) t))) := by
  refine pMet_of (by decide) (Nat.le_of_ble_eq_true rfl) ?_
  intro p e s m below meth c hx hb hr hown hlk hml hk hK hP hD ls hl
  have hl : lv_has ls 3 [(0, .ref z), (1, .long (lL t))] := hl
  refine lv_aload_n hx hb d_Zone_lastChangeUpTo_0 rfl (lv_at hl 0 rfl) ?_
  refine g_get hx hb hk hown hK hP 0 rfl f_Zone_25 rfl d_Zone_lastChangeUpTo_1 ?_
  refine ri_if_ne (tgt := 11) hx hb d_Zone_lastChangeUpTo_4 (by decide) (fun h4 => ?_) (fun h4 => ?_)
  · have gB := gb (by omega)
    have gE := ge (by omega)
    have q1 := rLast_bd gB (t := t) (sh := off) (by omega) (by omega) (by omega) (by omega)
    have q2 := rLast_bd gE (t := t) (sh := off + sv) (by omega) (by omega) (by omega) (by omega)
    refine lv_aload_n hx hb d_Zone_lastChangeUpTo_11 rfl (lv_at hl 0 rfl) ?_
    refine g_get hx hb hk hown hK hP 0 rfl f_Zone_12 rfl d_Zone_lastChangeUpTo_12 ?_
    refine lv_lload_n hx hb d_Zone_lastChangeUpTo_15 rfl (lv_at hl 1 rfl) ?_
    refine lv_aload_n hx hb d_Zone_lastChangeUpTo_16 rfl (lv_at hl 0 rfl) ?_
    refine g_get hx hb hk hown hK hP 0 rfl f_Zone_21 rfl d_Zone_lastChangeUpTo_17 ?_
    refine p_callV (rest := []) (q0 := 0) hx hb (hml.trans hl.1.symm) hown hk hK k_Zone_32 (ct_Rule_lastUpTo l D tys b0 b1 b2 b3 b4 t off gB (by omega) (by omega) (by omega) (by omega) (by omega) (by omega)) (w_subP (is := [1]) hP rfl) (w_subD (is := [1]) hD rfl rfl) rfl rfl rfl rfl ⟨rfl, rfl⟩ ⟨by decide, by decide, by decide, by decide⟩ (Nat.le_of_ble_eq_true rfl) d_Zone_lastChangeUpTo_20 ?_
    refine lv_aload_n hx hb d_Zone_lastChangeUpTo_23 rfl (lv_at hl 0 rfl) ?_
    refine g_get hx hb hk hown hK hP 0 rfl f_Zone_18 rfl d_Zone_lastChangeUpTo_24 ?_
    refine lv_lload_n hx hb d_Zone_lastChangeUpTo_27 rfl (lv_at hl 1 rfl) ?_
    refine lv_aload_n hx hb d_Zone_lastChangeUpTo_28 rfl (lv_at hl 0 rfl) ?_
    refine g_get hx hb hk hown hK hP 0 rfl f_Zone_21 rfl d_Zone_lastChangeUpTo_29 ?_
    refine lv_aload_n hx hb d_Zone_lastChangeUpTo_32 rfl (lv_at hl 0 rfl) ?_
    refine g_get hx hb hk hown hK hP 0 rfl f_Zone_25 rfl d_Zone_lastChangeUpTo_33 ?_
    refine ri_iadd hx hb d_Zone_lastChangeUpTo_36 ?_
    refine p_callV (rest := [.long (lL (rLast b1 b2 b3 b4 t off))]) (q0 := 0) hx hb (hml.trans hl.1.symm) hown hk hK k_Zone_32 (ct_Rule_lastUpTo l D tys e0 e1 e2 e3 e4 t (off + sv) gE (by omega) (by omega) (by omega) (by omega) (by omega) (by omega)) (w_subP (is := [2]) hP rfl) (w_subD (is := [2]) hD rfl rfl) rfl rfl rfl rfl ⟨rfl, rfl⟩ ⟨by decide, by decide, by decide, by decide⟩ (Nat.le_of_ble_eq_true rfl) d_Zone_lastChangeUpTo_37 ?_
    refine p_callS (rest := []) hx hb (hml.trans hl.1.symm) hown hk hK k_Zone_51 (ct_Math_maxJ l D tys (rLast b1 b2 b3 b4 t off) (rLast e1 e2 e3 e4 t (off + sv)) (by omega) (by omega) (by omega) (by omega)) nil_P nil_D rfl rfl ⟨rfl, rfl⟩ ⟨by decide, by decide, by decide, by decide⟩ (Nat.le_of_ble_eq_true rfl) d_Zone_lastChangeUpTo_40 ?_
    exact p_lret hx hb hr hlk d_Zone_lastChangeUpTo_43 (by unfold cBack; rw [if_neg h4]; rfl)
  · refine lv_ldc2 (v := lL (-1000000000000000)) hx hb hown (hk _ kc_Zone_49 _) d_Zone_lastChangeUpTo_7 ?_
    exact p_lret hx hb hr hlk d_Zone_lastChangeUpTo_10 (by unfold cBack; rw [if_pos h4])
abbrev rm_Zone_firstChangeBehind : Room := { frames := 4, cells := 0, slots := 0, locals := 97 }
set_option maxHeartbeats 4000000 in
set_option maxRecDepth 100000 in
theorem ct_Zone_firstChangeBehind (l : Launch) (D : va_G) (tys : List (ClassId × FieldType)) (z : Nat) (b0 : Nat) (e0 : Nat) (off : Int) (sv : Int) (b1 : Int) (b2 : Int) (b3 : Int) (b4 : Int) (e1 : Int) (e2 : Int) (e3 : Int) (e4 : Int) (t : Int) (go1 : -840 ≤ off) (go2 : off ≤ 840) (gs1 : 0 ≤ sv) (gs2 : sv ≤ 120) (gb : 0 < sv → rOk b1 b2 b3 b4) (ge : 0 < sv → rOk e1 e2 e3 e4) (gt1 : -60000000 ≤ t) (gt2 : t ≤ 10413900000000) : pMet l y_Zone_firstChangeBehind c_Zone_firstChangeBehind 3 (some .long) rm_Zone_firstChangeBehind D tys [.ref z, .long (lL t)] [(z, .inr (2, [.int (iI off), .int (iI sv), .ref b0, .ref e0])), (b0, .inr (0, [.int (iI b1), .int (iI b2), .int (iI b3), .int (iI b4)])), (e0, .inr (0, [.int (iI e1), .int (iI e2), .int (iI e3), .int (iI e4)]))] (.long (lL (cFwd off sv (b1, b2, b3, b4) (e1, e2, e3, e4) t))) := by
  refine pMet_of (by decide) (Nat.le_of_ble_eq_true rfl) ?_
  intro p e s m below meth c hx hb hr hown hlk hml hk hK hP hD ls hl
  have hl : lv_has ls 3 [(0, .ref z), (1, .long (lL t))] := hl
  refine lv_aload_n hx hb d_Zone_firstChangeBehind_0 rfl (lv_at hl 0 rfl) ?_
  refine g_get hx hb hk hown hK hP 0 rfl f_Zone_25 rfl d_Zone_firstChangeBehind_1 ?_
  refine ri_if_ne (tgt := 11) hx hb d_Zone_firstChangeBehind_4 (by decide) (fun h4 => ?_) (fun h4 => ?_)
  · have gB := gb (by omega)
    have gE := ge (by omega)
    have q1 := rNext_bd gB (t := t) (sh := off) (by omega) (by omega) (by omega) (by omega)
    have q2 := rNext_bd gE (t := t) (sh := off + sv) (by omega) (by omega) (by omega) (by omega)
    refine lv_aload_n hx hb d_Zone_firstChangeBehind_11 rfl (lv_at hl 0 rfl) ?_
    refine g_get hx hb hk hown hK hP 0 rfl f_Zone_12 rfl d_Zone_firstChangeBehind_12 ?_
    refine lv_lload_n hx hb d_Zone_firstChangeBehind_15 rfl (lv_at hl 1 rfl) ?_
    refine lv_aload_n hx hb d_Zone_firstChangeBehind_16 rfl (lv_at hl 0 rfl) ?_
    refine g_get hx hb hk hown hK hP 0 rfl f_Zone_21 rfl d_Zone_firstChangeBehind_17 ?_
    refine p_callV (rest := []) (q0 := 0) hx hb (hml.trans hl.1.symm) hown hk hK k_Zone_59 (ct_Rule_firstBehind l D tys b0 b1 b2 b3 b4 t off gB (by omega) (by omega) (by omega) (by omega) (by omega) (by omega)) (w_subP (is := [1]) hP rfl) (w_subD (is := [1]) hD rfl rfl) rfl rfl rfl rfl ⟨rfl, rfl⟩ ⟨by decide, by decide, by decide, by decide⟩ (Nat.le_of_ble_eq_true rfl) d_Zone_firstChangeBehind_20 ?_
    refine lv_aload_n hx hb d_Zone_firstChangeBehind_23 rfl (lv_at hl 0 rfl) ?_
    refine g_get hx hb hk hown hK hP 0 rfl f_Zone_18 rfl d_Zone_firstChangeBehind_24 ?_
    refine lv_lload_n hx hb d_Zone_firstChangeBehind_27 rfl (lv_at hl 1 rfl) ?_
    refine lv_aload_n hx hb d_Zone_firstChangeBehind_28 rfl (lv_at hl 0 rfl) ?_
    refine g_get hx hb hk hown hK hP 0 rfl f_Zone_21 rfl d_Zone_firstChangeBehind_29 ?_
    refine lv_aload_n hx hb d_Zone_firstChangeBehind_32 rfl (lv_at hl 0 rfl) ?_
    refine g_get hx hb hk hown hK hP 0 rfl f_Zone_25 rfl d_Zone_firstChangeBehind_33 ?_
    refine ri_iadd hx hb d_Zone_firstChangeBehind_36 ?_
    refine p_callV (rest := [.long (lL (rNext b1 b2 b3 b4 t off))]) (q0 := 0) hx hb (hml.trans hl.1.symm) hown hk hK k_Zone_59 (ct_Rule_firstBehind l D tys e0 e1 e2 e3 e4 t (off + sv) gE (by omega) (by omega) (by omega) (by omega) (by omega) (by omega)) (w_subP (is := [2]) hP rfl) (w_subD (is := [2]) hD rfl rfl) rfl rfl rfl rfl ⟨rfl, rfl⟩ ⟨by decide, by decide, by decide, by decide⟩ (Nat.le_of_ble_eq_true rfl) d_Zone_firstChangeBehind_37 ?_
    refine p_callS (rest := []) hx hb (hml.trans hl.1.symm) hown hk hK k_Zone_62 (ct_Math_minJ l D tys (rNext b1 b2 b3 b4 t off) (rNext e1 e2 e3 e4 t (off + sv)) (by omega) (by omega) (by omega) (by omega)) nil_P nil_D rfl rfl ⟨rfl, rfl⟩ ⟨by decide, by decide, by decide, by decide⟩ (Nat.le_of_ble_eq_true rfl) d_Zone_firstChangeBehind_40 ?_
    exact p_lret hx hb hr hlk d_Zone_firstChangeBehind_43 (by unfold cFwd; rw [if_neg h4]; rfl)
  · refine lv_ldc2 (v := lL 1000000000000000) hx hb hown (hk _ kc_Zone_57 _) d_Zone_firstChangeBehind_7 ?_
    exact p_lret hx hb hr hlk d_Zone_firstChangeBehind_10 (by unfold cFwd; rw [if_pos h4])
end
section
/-! Contracts: Tape's readers. By program (wip/whole/m_tape.py). -/
abbrev rm_Tape_nextByte : Room := { frames := 0, cells := 0, slots := 0, locals := 0 }
set_option maxHeartbeats 4000000 in
set_option maxRecDepth 100000 in
theorem ct_Tape_nextByte (l : Launch) (D : va_G) (tys : List (ClassId × FieldType)) (tp : Nat) (ba : Nat) (cB : ClassId) (nn : Nat) (i : Nat) (bk : Bool) (f : Nat → Int32) (hty : tys[0]? = some (cB, .byte)) (gn : nn ≤ 400) (gi : i ≤ nn) : pMet l y_Tape_nextByte c_Tape_nextByte 1 (some .int) rm_Tape_nextByte D tys [.ref tp] [(tp, .inr (1, [.ref ba, .int (iI ((nn : Int))), .int (iI ((i : Int))), .int (iI (bI bk))])), (ba, .inl (cB, 400, .inl f))] (.int (iI (zPk nn f i))) := by
  refine pMet_of (by decide) (Nat.le_of_ble_eq_true rfl) ?_
  intro p e s m below meth c hx hb hr hown hlk hml hk hK hP hD ls hl
  have hl : lv_has ls 1 [(0, .ref tp)] := hl
  refine lv_aload_n hx hb d_Tape_nextByte_0 rfl (lv_at hl 0 rfl) ?_
  refine g_get hx hb hk hown hK hP 0 rfl f_Tape_19 rfl d_Tape_nextByte_1 ?_
  refine ri_if_lt (tgt := 30) hx hb d_Tape_nextByte_4 (by decide) (fun h4 => ?_) (fun h4 => ?_)
  · exfalso; omega
  · refine lv_aload_n hx hb d_Tape_nextByte_7 rfl (lv_at hl 0 rfl) ?_
    refine g_get hx hb hk hown hK hP 0 rfl f_Tape_19 rfl d_Tape_nextByte_8 ?_
    refine lv_aload_n hx hb d_Tape_nextByte_11 rfl (lv_at hl 0 rfl) ?_
    refine g_get hx hb hk hown hK hP 0 rfl f_Tape_15 rfl d_Tape_nextByte_12 ?_
    refine ri_icmp_ge (tgt := 30) hx hb d_Tape_nextByte_15 (by decide) (fun h15 => ?_) (fun h15 => ?_)
    · refine lv_iconst (v := iI (-1)) hx hb d_Tape_nextByte_30 rfl ?_
      exact p_iret hx hb hr hlk d_Tape_nextByte_31 (by rw [zPk_out (by omega)])
    · refine lv_aload_n hx hb d_Tape_nextByte_18 rfl (lv_at hl 0 rfl) ?_
      refine g_get hx hb hk hown hK hP 0 rfl f_Tape_19 rfl d_Tape_nextByte_19 ?_
      refine lv_aload_n hx hb d_Tape_nextByte_22 rfl (lv_at hl 0 rfl) ?_
      refine g_get hx hb hk hown hK hP 0 rfl f_Tape_9 rfl d_Tape_nextByte_23 ?_
      refine va_alen hx hb hK hP 1 0 rfl hty (v := iI 400) (show Int32.ofNat 400 = iI 400 from by decide) d_Tape_nextByte_26 ?_
      refine ri_icmp_lt (tgt := 32) hx hb d_Tape_nextByte_27 (by decide) (fun h27 => ?_) (fun h27 => ?_)
      · refine lv_aload_n hx hb d_Tape_nextByte_32 rfl (lv_at hl 0 rfl) ?_
        refine g_get hx hb hk hown hK hP 0 rfl f_Tape_9 rfl d_Tape_nextByte_33 ?_
        refine lv_aload_n hx hb d_Tape_nextByte_36 rfl (lv_at hl 0 rfl) ?_
        refine g_get hx hb hk hown hK hP 0 rfl f_Tape_19 rfl d_Tape_nextByte_37 ?_
        refine g_bald (i := i) hx hb hK hP 1 0 rfl hty d_Tape_nextByte_40 ?_
        refine lv_sipush (v := iI 255) hx hb d_Tape_nextByte_41 (by decide) ?_
        refine lv_iand hx hb d_Tape_nextByte_44 ?_
        refine ri_v (tv_j _) ?_
        exact p_iret hx hb hr hlk d_Tape_nextByte_45 (by rw [zPk_in (by omega)])
      · exfalso; omega
abbrev rm_Tape_isDigit : Room := { frames := 0, cells := 0, slots := 0, locals := 0 }
set_option maxHeartbeats 4000000 in
set_option maxRecDepth 100000 in
theorem ct_Tape_isDigit (l : Launch) (D : va_G) (tys : List (ClassId × FieldType)) (x : Int) (gx1 : -2147483648 ≤ x) (gx2 : x ≤ 2147483647) : pMet l y_Tape_isDigit c_Tape_isDigit 1 (some .boolean) rm_Tape_isDigit D tys [.int (iI x)] [] (.int (iI (bI (zDigB x)))) := by
  refine pMet_of (by decide) (Nat.le_of_ble_eq_true rfl) ?_
  intro p e s m below meth c hx hb hr hown hlk hml hk hK hP hD ls hl
  have hl : lv_has ls 1 [(0, .int (iI x))] := hl
  refine lv_iload_n hx hb d_Tape_isDigit_0 rfl (lv_at hl 0 rfl) ?_
  refine lv_bipush (v := iI 48) hx hb d_Tape_isDigit_1 (by decide) ?_
  refine ri_icmp_lt (tgt := 16) hx hb d_Tape_isDigit_3 (by decide) (fun h3 => ?_) (fun h3 => ?_)
  · refine lv_iconst (v := iI 0) hx hb d_Tape_isDigit_16 rfl ?_
    exact p_zret hx hb hr hlk d_Tape_isDigit_17 (by unfold zDigB; first | (rw [decide_eq_false (show ¬ 48 ≤ x by omega)]; rfl) | (rw [decide_eq_true (show 48 ≤ x by omega), decide_eq_false (show ¬ x ≤ 57 by omega)]; rfl) | (rw [decide_eq_true (show 48 ≤ x by omega), decide_eq_true (show x ≤ 57 by omega)]; rfl)) (by omega)
  · refine lv_iload_n hx hb d_Tape_isDigit_6 rfl (lv_at hl 0 rfl) ?_
    refine lv_bipush (v := iI 57) hx hb d_Tape_isDigit_7 (by decide) ?_
    refine ri_icmp_gt (tgt := 16) hx hb d_Tape_isDigit_9 (by decide) (fun h9 => ?_) (fun h9 => ?_)
    · refine lv_iconst (v := iI 0) hx hb d_Tape_isDigit_16 rfl ?_
      exact p_zret hx hb hr hlk d_Tape_isDigit_17 (by unfold zDigB; first | (rw [decide_eq_false (show ¬ 48 ≤ x by omega)]; rfl) | (rw [decide_eq_true (show 48 ≤ x by omega), decide_eq_false (show ¬ x ≤ 57 by omega)]; rfl) | (rw [decide_eq_true (show 48 ≤ x by omega), decide_eq_true (show x ≤ 57 by omega)]; rfl)) (by omega)
    · refine lv_iconst (v := iI 1) hx hb d_Tape_isDigit_12 rfl ?_
      refine lv_goto (tgt := 17) hx hb d_Tape_isDigit_13 (by decide) ?_
      exact p_zret hx hb hr hlk d_Tape_isDigit_17 (by unfold zDigB; first | (rw [decide_eq_false (show ¬ 48 ≤ x by omega)]; rfl) | (rw [decide_eq_true (show 48 ≤ x by omega), decide_eq_false (show ¬ x ≤ 57 by omega)]; rfl) | (rw [decide_eq_true (show 48 ≤ x by omega), decide_eq_true (show x ≤ 57 by omega)]; rfl)) (by omega)
abbrev rm_Tape_readByte : Room := { frames := 1, cells := 0, slots := 0, locals := 20 }
set_option maxHeartbeats 4000000 in
set_option maxRecDepth 100000 in
theorem ct_Tape_readByte (l : Launch) (D : va_G) (tys : List (ClassId × FieldType)) (tp : Nat) (ba : Nat) (cB : ClassId) (nn : Nat) (i : Nat) (bk : Bool) (f : Nat → Int32) (w : Int) (hty : tys[0]? = some (cB, .byte)) (gn : nn ≤ 400) (gi : i ≤ nn) (gw1 : 0 ≤ w) (gw2 : w ≤ 65535) : mMet l y_Tape_readByte c_Tape_readByte 2 none rm_Tape_readByte D tys [.ref tp, .int (iI w)] [(tp, .inr (1, [.ref ba, .int (iI ((nn : Int))), .int (iI ((i : Int))), .int (iI (bI bk))])), (ba, .inl (cB, 400, .inl f))] none [(tp, .inr (1, [.ref ba, .int (iI ((nn : Int))), .int (iI ((((zByte nn f w (i, bk)).1 : Nat) : Int))), .int (iI (bI ((zByte nn f w (i, bk)).2)))])), (ba, .inl (cB, 400, .inl f))] := by
  refine mMet_of (by decide) (Nat.le_of_ble_eq_true rfl) ?_
  intro p e s m below meth c hx hb hr hown hlk hml hk hK hP hD hS ls hl
  have hl : lv_has ls 2 [(0, .ref tp), (1, .int (iI w))] := hl
  have gP := zPk_b nn f i
  cases bk with
  | true =>
    have hP : va_P D vwCl [(tp, .inr (1, [.ref ba, .int (iI ((nn : Int))), .int (iI ((i : Int))), .int (iI 1)])), (ba, .inl (cB, 400, .inl f))] s.heap := hP
    have hD : va_D (wA [(tp, .inr (1, [.ref ba, .int (iI ((nn : Int))), .int (iI ((i : Int))), .int (iI (bI true))])), (ba, .inl (cB, 400, .inl f))]) [(tp, .inr (1, [.ref ba, .int (iI ((nn : Int))), .int (iI ((i : Int))), .int (iI 1)])), (ba, .inl (cB, 400, .inl f))] := hD
    refine lv_aload_n hx hb d_Tape_readByte_0 rfl (lv_at hl 0 rfl) ?_
    refine g_get hx hb hk hown hK hP 0 rfl f_Tape_22 rfl d_Tape_readByte_1 ?_
    refine ri_if_eq (tgt := 8) hx hb d_Tape_readByte_4 (by decide) (fun h4 => ?_) (fun h4 => ?_)
    · exfalso; omega
    · exact m_vret hx hb hr hlk hP hS d_Tape_readByte_7 (by rw [zByte_brk nn f w (z := (i, true)) rfl]; rfl)
  | false =>
    have hP : va_P D vwCl [(tp, .inr (1, [.ref ba, .int (iI ((nn : Int))), .int (iI ((i : Int))), .int (iI 0)])), (ba, .inl (cB, 400, .inl f))] s.heap := hP
    have hD : va_D (wA [(tp, .inr (1, [.ref ba, .int (iI ((nn : Int))), .int (iI ((i : Int))), .int (iI (bI false))])), (ba, .inl (cB, 400, .inl f))]) [(tp, .inr (1, [.ref ba, .int (iI ((nn : Int))), .int (iI ((i : Int))), .int (iI 0)])), (ba, .inl (cB, 400, .inl f))] := hD
    refine lv_aload_n hx hb d_Tape_readByte_0 rfl (lv_at hl 0 rfl) ?_
    refine g_get hx hb hk hown hK hP 0 rfl f_Tape_22 rfl d_Tape_readByte_1 ?_
    refine ri_if_eq (tgt := 8) hx hb d_Tape_readByte_4 (by decide) (fun h4 => ?_) (fun h4 => ?_)
    · refine lv_aload_n hx hb d_Tape_readByte_8 rfl (lv_at hl 0 rfl) ?_
      refine p_callV (rest := []) (q0 := 0) hx hb (hml.trans hl.1.symm) hown hk hK k_Tape_56 (ct_Tape_nextByte l D tys tp ba cB nn i false f hty (by omega) (by omega)) (w_subP (is := [0, 1]) hP rfl) (w_subD (is := [0, 1]) hD rfl rfl) rfl rfl rfl rfl ⟨rfl, rfl⟩ ⟨by decide, by decide, by decide, by decide⟩ (Nat.le_of_ble_eq_true rfl) d_Tape_readByte_9 ?_
      refine lv_iload_n hx hb d_Tape_readByte_12 rfl (lv_at hl 1 rfl) ?_
      refine ri_icmp_ne (tgt := 29) hx hb d_Tape_readByte_13 (by decide) (fun h13 => ?_) (fun h13 => ?_)
      · refine lv_aload_n hx hb d_Tape_readByte_29 rfl (lv_at hl 0 rfl) ?_
        refine lv_iconst (v := iI 1) hx hb d_Tape_readByte_30 rfl ?_
        refine g_put hx hb hk hown hK hP hD hS 0 rfl f_Tape_22 fT_Tape rfl (zb_nar (by decide)) rfl (Nat.le_of_ble_eq_true rfl) d_Tape_readByte_31 (fun H locs hP hD hS => ?_)
        have hP : va_P D vwCl [(tp, .inr (1, [.ref ba, .int (iI ((nn : Int))), .int (iI ((i : Int))), .int (iI 1)])), (ba, .inl (cB, 400, .inl f))] H := hP
        have hD : va_D (wA [(tp, .inr (1, [.ref ba, .int (iI ((nn : Int))), .int (iI ((i : Int))), .int (iI (bI false))])), (ba, .inl (cB, 400, .inl f))]) [(tp, .inr (1, [.ref ba, .int (iI ((nn : Int))), .int (iI ((i : Int))), .int (iI 1)])), (ba, .inl (cB, 400, .inl f))] := hD
        exact m_vret hx hb hr hlk hP hS d_Tape_readByte_34 (by first | (rw [zByte_eq h13]; rfl) | (rw [zByte_ne h13]; rfl))
      · refine lv_aload_n hx hb d_Tape_readByte_16 rfl (lv_at hl 0 rfl) ?_
        refine lv_dup hx hb d_Tape_readByte_17 rfl ?_
        refine g_get hx hb hk hown hK hP 0 rfl f_Tape_19 rfl d_Tape_readByte_18 ?_
        refine lv_iconst (v := iI 1) hx hb d_Tape_readByte_21 rfl ?_
        refine ri_iadd hx hb d_Tape_readByte_22 ?_
        refine ri_i (show ((i : Int)) + 1 = ((i + 1 : Nat) : Int) from by omega) ?_
        refine g_put hx hb hk hown hK hP hD hS 0 rfl f_Tape_19 fT_Tape rfl (rfl) rfl (Nat.le_of_ble_eq_true rfl) d_Tape_readByte_23 (fun H locs hP hD hS => ?_)
        have hP : va_P D vwCl [(tp, .inr (1, [.ref ba, .int (iI ((nn : Int))), .int (iI (((i + 1 : Nat) : Int))), .int (iI 0)])), (ba, .inl (cB, 400, .inl f))] H := hP
        have hD : va_D (wA [(tp, .inr (1, [.ref ba, .int (iI ((nn : Int))), .int (iI ((i : Int))), .int (iI (bI false))])), (ba, .inl (cB, 400, .inl f))]) [(tp, .inr (1, [.ref ba, .int (iI ((nn : Int))), .int (iI (((i + 1 : Nat) : Int))), .int (iI 0)])), (ba, .inl (cB, 400, .inl f))] := hD
        refine lv_goto (tgt := 34) hx hb d_Tape_readByte_26 (by decide) ?_
        exact m_vret hx hb hr hlk hP hS d_Tape_readByte_34 (by first | (rw [zByte_eq h13]; rfl) | (rw [zByte_ne h13]; rfl))
    · exfalso; omega
abbrev rm_Tape_readBlanks : Room := { frames := 2, cells := 0, slots := 0, locals := 41 }
set_option maxHeartbeats 4000000 in
set_option maxRecDepth 100000 in
theorem ct_Tape_readBlanks (l : Launch) (D : va_G) (tys : List (ClassId × FieldType)) (tp : Nat) (ba : Nat) (cB : ClassId) (nn : Nat) (i : Nat) (bk : Bool) (f : Nat → Int32) (hty : tys[0]? = some (cB, .byte)) (gn : nn ≤ 400) (gi : i ≤ nn) : mMet l y_Tape_readBlanks c_Tape_readBlanks 1 none rm_Tape_readBlanks D tys [.ref tp] [(tp, .inr (1, [.ref ba, .int (iI ((nn : Int))), .int (iI ((i : Int))), .int (iI (bI bk))])), (ba, .inl (cB, 400, .inl f))] none [(tp, .inr (1, [.ref ba, .int (iI ((nn : Int))), .int (iI ((((zBl nn f (i, bk)).1 : Nat) : Int))), .int (iI (bI ((zBl nn f (i, bk)).2)))])), (ba, .inl (cB, 400, .inl f))] := by
  refine mMet_of (by decide) (Nat.le_of_ble_eq_true rfl) ?_
  intro p e s m below meth c hx hb hr hown hlk hml hk hK hP hD hS ls hl
  have hl : lv_has ls 1 [(0, .ref tp)] := hl
  refine lv_aload_n hx hb d_Tape_readBlanks_0 rfl (lv_at hl 0 rfl) ?_
  refine lv_bipush (v := iI 32) hx hb d_Tape_readBlanks_1 (by decide) ?_
  refine m_callV (rest := []) (q0 := 0) hx hb (hml.trans hl.1.symm) hown hk hK k_Tape_59 (ct_Tape_readByte l D tys tp ba cB nn i bk f 32 hty (by omega) (by omega) (by omega) (by omega)) hP hD hS [0, 1] rfl rfl rfl rfl rfl rfl rfl ⟨rfl, rfl⟩ ⟨by decide, by decide, by decide, by decide⟩ (Nat.le_of_ble_eq_true rfl) d_Tape_readBlanks_3 (fun H locs hP hD hS => ?_)
  have hP : va_P D vwCl [(tp, .inr (1, [.ref ba, .int (iI ((nn : Int))), .int (iI ((((zByte nn f 32 (i, bk)).1 : Nat) : Int))), .int (iI (bI ((zByte nn f 32 (i, bk)).2)))])), (ba, .inl (cB, 400, .inl f))] H := hP
  have hD : va_D (wA [(tp, .inr (1, [.ref ba, .int (iI ((nn : Int))), .int (iI ((i : Int))), .int (iI (bI bk))])), (ba, .inl (cB, 400, .inl f))]) [(tp, .inr (1, [.ref ba, .int (iI ((nn : Int))), .int (iI ((((zByte nn f 32 (i, bk)).1 : Nat) : Int))), .int (iI (bI ((zByte nn f 32 (i, bk)).2)))])), (ba, .inl (cB, 400, .inl f))] := hD
  have gz := zByte_b (n := nn) (f := f) (c := 32) (z := (i, bk)) (by decide) gi
  have ge := zBl_by nn f (i, bk)
  generalize zByte nn f 32 (i, bk) = zz at hP hD gz ge
  obtain ⟨j0, b0⟩ := zz
  simp only at gz ge
  cases b0 with
  | true =>
    have hP : va_P D vwCl [(tp, .inr (1, [.ref ba, .int (iI ((nn : Int))), .int (iI ((j0 : Int))), .int (iI 1)])), (ba, .inl (cB, 400, .inl f))] H := hP
    have hD : va_D (wA [(tp, .inr (1, [.ref ba, .int (iI ((nn : Int))), .int (iI ((i : Int))), .int (iI (bI bk))])), (ba, .inl (cB, 400, .inl f))]) [(tp, .inr (1, [.ref ba, .int (iI ((nn : Int))), .int (iI ((j0 : Int))), .int (iI 1)])), (ba, .inl (cB, 400, .inl f))] := hD
    refine lv_aload_n hx hb d_Tape_readBlanks_6 rfl (lv_at hl 0 rfl) ?_
    refine g_get hx hb hk hown hK hP 0 rfl f_Tape_22 rfl d_Tape_readBlanks_7 ?_
    refine ri_if_ne (tgt := 46) hx hb d_Tape_readBlanks_10 (by decide) (fun h10 => ?_) (fun h10 => ?_)
    · exact m_vret hx hb hr hlk hP hS d_Tape_readBlanks_46 (by rw [ge]; rfl)
    · exfalso; omega
  | false =>
    have hP : va_P D vwCl [(tp, .inr (1, [.ref ba, .int (iI ((nn : Int))), .int (iI ((j0 : Int))), .int (iI 0)])), (ba, .inl (cB, 400, .inl f))] H := hP
    have hD : va_D (wA [(tp, .inr (1, [.ref ba, .int (iI ((nn : Int))), .int (iI ((i : Int))), .int (iI (bI bk))])), (ba, .inl (cB, 400, .inl f))]) [(tp, .inr (1, [.ref ba, .int (iI ((nn : Int))), .int (iI ((j0 : Int))), .int (iI 0)])), (ba, .inl (cB, 400, .inl f))] := hD
    have loop6 : ∀ (n : Nat) (j : Nat) (ls : Array Slot) (H : Heap) (locs : List Loc), (j ≤ nn) → (zSkip f (nn - j0) j0 = zSkip f (nn - j) j) → nn - j = n → va_P D vwCl [(tp, .inr (1, [.ref ba, .int (iI ((nn : Int))), .int (iI ((j : Int))), .int (iI 0)])), (ba, .inl (cB, 400, .inl f))] H → va_D (wA [(tp, .inr (1, [.ref ba, .int (iI ((nn : Int))), .int (iI ((i : Int))), .int (iI (bI bk))])), (ba, .inl (cB, 400, .inl f))]) [(tp, .inr (1, [.ref ba, .int (iI ((nn : Int))), .int (iI ((j : Int))), .int (iI 0)])), (ba, .inl (cB, 400, .inl f))] → va_S (wA [(tp, .inr (1, [.ref ba, .int (iI ((nn : Int))), .int (iI ((i : Int))), .int (iI (bI bk))])), (ba, .inl (cB, 400, .inl f))]) s.heap H locs → lv_has ls 1 [(0, .ref tp)] → W p l e rm_Tape_readBlanks s m ([.ref tp] : List Value).toArray below meth c H locs 0 0 (MQ below (mQ D [(tp, .inr (1, [.ref ba, .int (iI ((nn : Int))), .int (iI ((i : Int))), .int (iI (bI bk))])), (ba, .inl (cB, 400, .inl f))] none [(tp, .inr (1, [.ref ba, .int (iI ((nn : Int))), .int (iI ((((zBl nn f (i, bk)).1 : Nat) : Int))), .int (iI (bI ((zBl nn f (i, bk)).2)))])), (ba, .inl (cB, 400, .inl f))]) ([.ref tp] : List Value).toArray s 0 0 (wA [(tp, .inr (1, [.ref ba, .int (iI ((nn : Int))), .int (iI ((i : Int))), .int (iI (bI bk))])), (ba, .inl (cB, 400, .inl f))])) (F0 m 6 ls []) := by
      intro n
      induction n using Nat.strongRecOn with
      | _ n ih =>
      intro j ls H locs hj hv hn hP hD hS hl
      have gP := zPk_b nn f j
      refine lv_aload_n hx hb d_Tape_readBlanks_6 rfl (lv_at hl 0 rfl) ?_
      refine g_get hx hb hk hown hK hP 0 rfl f_Tape_22 rfl d_Tape_readBlanks_7 ?_
      refine ri_if_ne (tgt := 46) hx hb d_Tape_readBlanks_10 (by decide) (fun h10 => ?_) (fun h10 => ?_)
      · exfalso; omega
      · refine lv_aload_n hx hb d_Tape_readBlanks_13 rfl (lv_at hl 0 rfl) ?_
        refine g_get hx hb hk hown hK hP 0 rfl f_Tape_19 rfl d_Tape_readBlanks_14 ?_
        refine lv_aload_n hx hb d_Tape_readBlanks_17 rfl (lv_at hl 0 rfl) ?_
        refine g_get hx hb hk hown hK hP 0 rfl f_Tape_15 rfl d_Tape_readBlanks_18 ?_
        refine ri_icmp_ge (tgt := 46) hx hb d_Tape_readBlanks_21 (by decide) (fun h21 => ?_) (fun h21 => ?_)
        · exact m_vret hx hb hr hlk hP hS d_Tape_readBlanks_46 (by rw [ge, if_neg (by simp), hv]; first | (rw [zSkip_end (f := f) (n := nn) (j := j) (by omega)]; rfl) | (rw [zSkip_at (f := f) (n := nn) (j := j) (by omega) (by rw [← zPk_in (n := nn) (f := f) (i := j) (by omega)]; exact h30)]; rfl))
        · refine lv_aload_n hx hb d_Tape_readBlanks_24 rfl (lv_at hl 0 rfl) ?_
          refine p_callV (rest := []) (q0 := 0) hx hb (hml.trans hl.1.symm) hown hk hK k_Tape_56 (ct_Tape_nextByte l D tys tp ba cB nn j false f hty (by omega) (by omega)) (w_subP (is := [0, 1]) hP rfl) (w_subD (is := [0, 1]) hD rfl rfl) rfl rfl rfl rfl ⟨rfl, rfl⟩ ⟨by decide, by decide, by decide, by decide⟩ (Nat.le_of_ble_eq_true rfl) d_Tape_readBlanks_25 ?_
          refine lv_bipush (v := iI 32) hx hb d_Tape_readBlanks_28 (by decide) ?_
          refine ri_icmp_ne (tgt := 46) hx hb d_Tape_readBlanks_30 (by decide) (fun h30 => ?_) (fun h30 => ?_)
          · exact m_vret hx hb hr hlk hP hS d_Tape_readBlanks_46 (by rw [ge, if_neg (by simp), hv]; first | (rw [zSkip_end (f := f) (n := nn) (j := j) (by omega)]; rfl) | (rw [zSkip_at (f := f) (n := nn) (j := j) (by omega) (by rw [← zPk_in (n := nn) (f := f) (i := j) (by omega)]; exact h30)]; rfl))
          · refine lv_aload_n hx hb d_Tape_readBlanks_33 rfl (lv_at hl 0 rfl) ?_
            refine lv_dup hx hb d_Tape_readBlanks_34 rfl ?_
            refine g_get hx hb hk hown hK hP 0 rfl f_Tape_19 rfl d_Tape_readBlanks_35 ?_
            refine lv_iconst (v := iI 1) hx hb d_Tape_readBlanks_38 rfl ?_
            refine ri_iadd hx hb d_Tape_readBlanks_39 ?_
            refine ri_i (show ((j : Int)) + 1 = ((j + 1 : Nat) : Int) from by omega) ?_
            refine g_put hx hb hk hown hK hP hD hS 0 rfl f_Tape_19 fT_Tape rfl (rfl) rfl (Nat.le_of_ble_eq_true rfl) d_Tape_readBlanks_40 (fun H locs hP hD hS => ?_)
            have hP : va_P D vwCl [(tp, .inr (1, [.ref ba, .int (iI ((nn : Int))), .int (iI (((j + 1 : Nat) : Int))), .int (iI 0)])), (ba, .inl (cB, 400, .inl f))] H := hP
            have hD : va_D (wA [(tp, .inr (1, [.ref ba, .int (iI ((nn : Int))), .int (iI ((i : Int))), .int (iI (bI bk))])), (ba, .inl (cB, 400, .inl f))]) [(tp, .inr (1, [.ref ba, .int (iI ((nn : Int))), .int (iI (((j + 1 : Nat) : Int))), .int (iI 0)])), (ba, .inl (cB, 400, .inl f))] := hD
            refine lv_goto (tgt := 6) hx hb d_Tape_readBlanks_43 (by decide) ?_
            exact ih _ (by omega) (j + 1) ls _ _ (by omega) (by rw [hv, zSkip_go (f := f) (n := nn) (j := j) (by omega) (by rw [← zPk_in (n := nn) (f := f) (i := j) (by omega)]; exact h30)]) rfl hP hD hS (lv_sub hl [0] rfl)
    exact loop6 _ j0 ls _ _ (by omega) rfl rfl hP hD hS (lv_sub hl [0] rfl)
abbrev rm_Tape_readDigits : Room := { frames := 1, cells := 0, slots := 0, locals := 21 }
set_option maxHeartbeats 4000000 in
set_option maxRecDepth 100000 in
theorem ct_Tape_readDigits (l : Launch) (D : va_G) (tys : List (ClassId × FieldType)) (tp : Nat) (ba : Nat) (cB : ClassId) (nn : Nat) (i : Nat) (bk : Bool) (f : Nat → Int32) (hty : tys[0]? = some (cB, .byte)) (gn : nn ≤ 400) (gi : i ≤ nn) : mMet l y_Tape_readDigits c_Tape_readDigits 3 (some .int) rm_Tape_readDigits D tys [.ref tp] [(tp, .inr (1, [.ref ba, .int (iI ((nn : Int))), .int (iI ((i : Int))), .int (iI (bI bk))])), (ba, .inl (cB, 400, .inl f))] (some (.int (iI ((zDg nn f i).1)))) [(tp, .inr (1, [.ref ba, .int (iI ((nn : Int))), .int (iI ((((zDg nn f i).2 : Nat) : Int))), .int (iI (bI bk))])), (ba, .inl (cB, 400, .inl f))] := by
  refine mMet_of (by decide) (Nat.le_of_ble_eq_true rfl) ?_
  intro p e s m below meth c hx hb hr hown hlk hml hk hK hP hD hS ls hl
  have hl : lv_has ls 3 [(0, .ref tp)] := hl
  have gP := zPk_b nn f i
  refine lv_aload_n hx hb d_Tape_readDigits_0 rfl (lv_at hl 0 rfl) ?_
  refine p_callV (rest := []) (q0 := 0) hx hb (hml.trans hl.1.symm) hown hk hK k_Tape_56 (ct_Tape_nextByte l D tys tp ba cB nn i bk f hty (by omega) (by omega)) (w_subP (is := [0, 1]) hP rfl) (w_subD (is := [0, 1]) hD rfl rfl) rfl rfl rfl rfl ⟨rfl, rfl⟩ ⟨by decide, by decide, by decide, by decide⟩ (Nat.le_of_ble_eq_true rfl) d_Tape_readDigits_1 ?_
  refine lv_istore_n (lv' := [(1, .int (iI (zPk nn f i))), (0, .ref tp)]) hx hb d_Tape_readDigits_4 rfl hl (by decide) rfl (fun ls hl => ?_)
  refine lv_iload_n hx hb d_Tape_readDigits_5 rfl (lv_at hl 0 rfl) ?_
  refine p_callS (rest := []) hx hb (hml.trans hl.1.symm) hown hk hK k_Tape_80 (ct_Tape_isDigit l D tys (zPk nn f i) (by omega) (by omega)) nil_P nil_D rfl rfl ⟨rfl, rfl⟩ ⟨by decide, by decide, by decide, by decide⟩ (Nat.le_of_ble_eq_true rfl) d_Tape_readDigits_6 ?_
  have gB := bI_b (zDigB (zPk nn f i))
  refine ri_if_ne (tgt := 14) hx hb d_Tape_readDigits_9 (by decide) (fun h9 => ?_) (fun h9 => ?_)
  · have gd := zDigB_t h9
    have gl : i < nn := zPk_lt (f := f) (by omega)
    refine lv_aload_n hx hb d_Tape_readDigits_14 rfl (lv_at hl 1 rfl) ?_
    refine lv_dup hx hb d_Tape_readDigits_15 rfl ?_
    refine g_get hx hb hk hown hK hP 0 rfl f_Tape_19 rfl d_Tape_readDigits_16 ?_
    refine lv_iconst (v := iI 1) hx hb d_Tape_readDigits_19 rfl ?_
    refine ri_iadd hx hb d_Tape_readDigits_20 ?_
    refine ri_i (show ((i : Int)) + 1 = ((i + 1 : Nat) : Int) from by omega) ?_
    refine g_put hx hb hk hown hK hP hD hS 0 rfl f_Tape_19 fT_Tape rfl (rfl) rfl (Nat.le_of_ble_eq_true rfl) d_Tape_readDigits_21 (fun H locs hP hD hS => ?_)
    have hP : va_P D vwCl [(tp, .inr (1, [.ref ba, .int (iI ((nn : Int))), .int (iI (((i + 1 : Nat) : Int))), .int (iI (bI bk))])), (ba, .inl (cB, 400, .inl f))] H := hP
    have hD : va_D (wA [(tp, .inr (1, [.ref ba, .int (iI ((nn : Int))), .int (iI ((i : Int))), .int (iI (bI bk))])), (ba, .inl (cB, 400, .inl f))]) [(tp, .inr (1, [.ref ba, .int (iI ((nn : Int))), .int (iI (((i + 1 : Nat) : Int))), .int (iI (bI bk))])), (ba, .inl (cB, 400, .inl f))] := hD
    refine lv_iload_n hx hb d_Tape_readDigits_24 rfl (lv_at hl 0 rfl) ?_
    refine lv_bipush (v := iI 48) hx hb d_Tape_readDigits_25 (by decide) ?_
    refine ri_isub hx hb d_Tape_readDigits_27 ?_
    refine lv_istore_n (lv' := [(2, .int (iI ((zPk nn f i) - 48))), (1, .int (iI (zPk nn f i))), (0, .ref tp)]) hx hb d_Tape_readDigits_28 rfl hl (by decide) rfl (fun ls hl => ?_)
    have loop29 : ∀ (n : Nat) (j : Nat) (v : Int) (ls : Array Slot) (H : Heap) (locs : List Loc), (j ≤ nn) → (0 ≤ v) → (v ≤ 100000) → (v = 0 → zDg nn f i = (v, j)) → (0 < v → zDg nn f i = zRun f (nn - j) j v) → nn - j = n → va_P D vwCl [(tp, .inr (1, [.ref ba, .int (iI ((nn : Int))), .int (iI ((j : Int))), .int (iI (bI bk))])), (ba, .inl (cB, 400, .inl f))] H → va_D (wA [(tp, .inr (1, [.ref ba, .int (iI ((nn : Int))), .int (iI ((i : Int))), .int (iI (bI bk))])), (ba, .inl (cB, 400, .inl f))]) [(tp, .inr (1, [.ref ba, .int (iI ((nn : Int))), .int (iI ((j : Int))), .int (iI (bI bk))])), (ba, .inl (cB, 400, .inl f))] → va_S (wA [(tp, .inr (1, [.ref ba, .int (iI ((nn : Int))), .int (iI ((i : Int))), .int (iI (bI bk))])), (ba, .inl (cB, 400, .inl f))]) s.heap H locs → lv_has ls 3 [(2, .int (iI v)), (0, .ref tp)] → W p l e rm_Tape_readDigits s m ([.ref tp] : List Value).toArray below meth c H locs 0 0 (MQ below (mQ D [(tp, .inr (1, [.ref ba, .int (iI ((nn : Int))), .int (iI ((i : Int))), .int (iI (bI bk))])), (ba, .inl (cB, 400, .inl f))] (some (.int (iI ((zDg nn f i).1)))) [(tp, .inr (1, [.ref ba, .int (iI ((nn : Int))), .int (iI ((((zDg nn f i).2 : Nat) : Int))), .int (iI (bI bk))])), (ba, .inl (cB, 400, .inl f))]) ([.ref tp] : List Value).toArray s 0 0 (wA [(tp, .inr (1, [.ref ba, .int (iI ((nn : Int))), .int (iI ((i : Int))), .int (iI (bI bk))])), (ba, .inl (cB, 400, .inl f))])) (F0 m 29 ls []) := by
      intro n
      induction n using Nat.strongRecOn with
      | _ n ih =>
      intro j v ls H locs hj hv1 hv2 hz hp hn hP hD hS hl
      have gP2 := zPk_b nn f j
      refine lv_iload_n hx hb d_Tape_readDigits_29 rfl (lv_at hl 0 rfl) ?_
      refine ri_if_le (tgt := 85) hx hb d_Tape_readDigits_30 (by decide) (fun h30 => ?_) (fun h30 => ?_)
      · refine lv_iload_n hx hb d_Tape_readDigits_85 rfl (lv_at hl 0 rfl) ?_
        have hR : zDg nn f i = (v, j) := by first | exact hz (by omega) | (rw [hp (by omega), zRun_end (f := f) (n := nn) (j := j) (by omega)]; done) | (rw [hp (by omega), zRun_at (f := f) (n := nn) (j := j) (by omega) (by rw [← zPk_in (n := nn) (f := f) (i := j) (by omega)]; exact zDigB_f h51)]; done)
        exact m_iret hx hb hr hlk hP hS d_Tape_readDigits_86 (by rw [hR]) (by rw [hR])
      · refine lv_aload_n hx hb d_Tape_readDigits_33 rfl (lv_at hl 1 rfl) ?_
        refine g_get hx hb hk hown hK hP 0 rfl f_Tape_19 rfl d_Tape_readDigits_34 ?_
        refine lv_aload_n hx hb d_Tape_readDigits_37 rfl (lv_at hl 1 rfl) ?_
        refine g_get hx hb hk hown hK hP 0 rfl f_Tape_15 rfl d_Tape_readDigits_38 ?_
        refine ri_icmp_ge (tgt := 85) hx hb d_Tape_readDigits_41 (by decide) (fun h41 => ?_) (fun h41 => ?_)
        · refine lv_iload_n hx hb d_Tape_readDigits_85 rfl (lv_at hl 0 rfl) ?_
          have hR : zDg nn f i = (v, j) := by first | exact hz (by omega) | (rw [hp (by omega), zRun_end (f := f) (n := nn) (j := j) (by omega)]; done) | (rw [hp (by omega), zRun_at (f := f) (n := nn) (j := j) (by omega) (by rw [← zPk_in (n := nn) (f := f) (i := j) (by omega)]; exact zDigB_f h51)]; done)
          exact m_iret hx hb hr hlk hP hS d_Tape_readDigits_86 (by rw [hR]) (by rw [hR])
        · refine lv_aload_n hx hb d_Tape_readDigits_44 rfl (lv_at hl 1 rfl) ?_
          refine p_callV (rest := []) (q0 := 0) hx hb (hml.trans hl.1.symm) hown hk hK k_Tape_56 (ct_Tape_nextByte l D tys tp ba cB nn j bk f hty (by omega) (by omega)) (w_subP (is := [0, 1]) hP rfl) (w_subD (is := [0, 1]) hD rfl rfl) rfl rfl rfl rfl ⟨rfl, rfl⟩ ⟨by decide, by decide, by decide, by decide⟩ (Nat.le_of_ble_eq_true rfl) d_Tape_readDigits_45 ?_
          refine p_callS (rest := []) hx hb (hml.trans hl.1.symm) hown hk hK k_Tape_80 (ct_Tape_isDigit l D tys (zPk nn f j) (by omega) (by omega)) nil_P nil_D rfl rfl ⟨rfl, rfl⟩ ⟨by decide, by decide, by decide, by decide⟩ (Nat.le_of_ble_eq_true rfl) d_Tape_readDigits_48 ?_
          have gB := bI_b (zDigB (zPk nn f j))
          refine ri_if_eq (tgt := 85) hx hb d_Tape_readDigits_51 (by decide) (fun h51 => ?_) (fun h51 => ?_)
          · refine lv_iload_n hx hb d_Tape_readDigits_85 rfl (lv_at hl 0 rfl) ?_
            have hR : zDg nn f i = (v, j) := by first | exact hz (by omega) | (rw [hp (by omega), zRun_end (f := f) (n := nn) (j := j) (by omega)]; done) | (rw [hp (by omega), zRun_at (f := f) (n := nn) (j := j) (by omega) (by rw [← zPk_in (n := nn) (f := f) (i := j) (by omega)]; exact zDigB_f h51)]; done)
            exact m_iret hx hb hr hlk hP hS d_Tape_readDigits_86 (by rw [hR]) (by rw [hR])
          · refine lv_iload_n hx hb d_Tape_readDigits_54 rfl (lv_at hl 0 rfl) ?_
            refine lv_bipush (v := iI 10) hx hb d_Tape_readDigits_55 (by decide) ?_
            refine ri_imul hx hb d_Tape_readDigits_57 ?_
            refine lv_aload_n hx hb d_Tape_readDigits_58 rfl (lv_at hl 1 rfl) ?_
            refine p_callV (rest := [.int (iI (v * 10))]) (q0 := 0) hx hb (hml.trans hl.1.symm) hown hk hK k_Tape_56 (ct_Tape_nextByte l D tys tp ba cB nn j bk f hty (by omega) (by omega)) (w_subP (is := [0, 1]) hP rfl) (w_subD (is := [0, 1]) hD rfl rfl) rfl rfl rfl rfl ⟨rfl, rfl⟩ ⟨by decide, by decide, by decide, by decide⟩ (Nat.le_of_ble_eq_true rfl) d_Tape_readDigits_59 ?_
            refine ri_iadd hx hb d_Tape_readDigits_62 ?_
            refine lv_bipush (v := iI 48) hx hb d_Tape_readDigits_63 (by decide) ?_
            refine ri_isub hx hb d_Tape_readDigits_65 ?_
            refine lv_ldc (v := iI 100000) hx hb hown (hk _ kc_Tape_84 _) d_Tape_readDigits_66 ?_
            refine p_callS (rest := []) hx hb (hml.trans hl.1.symm) hown hk hK k_Tape_85 (ct_Math_minI l D tys (((v * 10) + (zPk nn f j)) - 48) 100000 (by omega) (by omega) (by omega) (by omega)) nil_P nil_D rfl rfl ⟨rfl, rfl⟩ ⟨by decide, by decide, by decide, by decide⟩ (Nat.le_of_ble_eq_true rfl) d_Tape_readDigits_68 ?_
            refine lv_istore_n (lv' := [(2, .int (iI (min (((v * 10) + (zPk nn f j)) - 48) 100000))), (0, .ref tp)]) hx hb d_Tape_readDigits_71 rfl hl (by decide) rfl (fun ls hl => ?_)
            refine lv_aload_n hx hb d_Tape_readDigits_72 rfl (lv_at hl 1 rfl) ?_
            refine lv_dup hx hb d_Tape_readDigits_73 rfl ?_
            refine g_get hx hb hk hown hK hP 0 rfl f_Tape_19 rfl d_Tape_readDigits_74 ?_
            refine lv_iconst (v := iI 1) hx hb d_Tape_readDigits_77 rfl ?_
            refine ri_iadd hx hb d_Tape_readDigits_78 ?_
            refine ri_i (show ((j : Int)) + 1 = ((j + 1 : Nat) : Int) from by omega) ?_
            refine g_put hx hb hk hown hK hP hD hS 0 rfl f_Tape_19 fT_Tape rfl (rfl) rfl (Nat.le_of_ble_eq_true rfl) d_Tape_readDigits_79 (fun H locs hP hD hS => ?_)
            have hP : va_P D vwCl [(tp, .inr (1, [.ref ba, .int (iI ((nn : Int))), .int (iI (((j + 1 : Nat) : Int))), .int (iI (bI bk))])), (ba, .inl (cB, 400, .inl f))] H := hP
            have hD : va_D (wA [(tp, .inr (1, [.ref ba, .int (iI ((nn : Int))), .int (iI ((i : Int))), .int (iI (bI bk))])), (ba, .inl (cB, 400, .inl f))]) [(tp, .inr (1, [.ref ba, .int (iI ((nn : Int))), .int (iI (((j + 1 : Nat) : Int))), .int (iI (bI bk))])), (ba, .inl (cB, 400, .inl f))] := hD
            refine lv_goto (tgt := 29) hx hb d_Tape_readDigits_82 (by decide) ?_
            exact ih _ (by omega) (j + 1) (min (((v * 10) + (zPk nn f j)) - 48) 100000) ls _ _ (by omega) (by have := zDigB_t h51; omega) (by omega) (fun h => by exfalso; have := zDigB_t h51; omega) (fun h => by rw [hp (by omega), zRun_go (f := f) (n := nn) (j := j) (by omega) (by rw [← zPk_in (n := nn) (f := f) (i := j) (by omega)]; exact zDigB_t h51), zPk_in (n := nn) (f := f) (i := j) (by omega)]) rfl hP hD hS (lv_sub hl [0, 1] rfl)
    exact loop29 _ (i + 1) (zPk nn f i - 48) ls _ _ (by omega) (by omega) (by omega) (fun h => by rw [zDg_0 (by omega), h]) (fun h => zDg_r gd (by omega)) rfl hP hD hS (lv_sub hl [0, 2] rfl)
  · refine lv_iconst (v := iI (-1)) hx hb d_Tape_readDigits_12 rfl ?_
    exact m_iret hx hb hr hlk hP hS d_Tape_readDigits_13 (by rw [zDg_no (zDigB_f h9)]) (by rw [zDg_no (zDigB_f h9)])
abbrev rm_Tape_readNumber : Room := { frames := 2, cells := 0, slots := 0, locals := 43 }
set_option maxHeartbeats 4000000 in
set_option maxRecDepth 100000 in
theorem ct_Tape_readNumber (l : Launch) (D : va_G) (tys : List (ClassId × FieldType)) (tp : Nat) (ba : Nat) (cB : ClassId) (nn : Nat) (i : Nat) (bk : Bool) (f : Nat → Int32) (lo : Int) (hi : Int) (hty : tys[0]? = some (cB, .byte)) (gn : nn ≤ 400) (gi : i ≤ nn) (gl1 : 0 ≤ lo) (gl2 : lo ≤ 100000) (gh1 : 0 ≤ hi) (gh2 : hi ≤ 100000) : mMet l y_Tape_readNumber c_Tape_readNumber 5 (some .int) rm_Tape_readNumber D tys [.ref tp, .int (iI lo), .int (iI hi)] [(tp, .inr (1, [.ref ba, .int (iI ((nn : Int))), .int (iI ((i : Int))), .int (iI (bI bk))])), (ba, .inl (cB, 400, .inl f))] (some (.int (iI ((zNum nn f lo hi (i, bk)).1)))) [(tp, .inr (1, [.ref ba, .int (iI ((nn : Int))), .int (iI ((((zNum nn f lo hi (i, bk)).2.1 : Nat) : Int))), .int (iI (bI ((zNum nn f lo hi (i, bk)).2.2)))])), (ba, .inl (cB, 400, .inl f))] := by
  refine mMet_of (by decide) (Nat.le_of_ble_eq_true rfl) ?_
  intro p e s m below meth c hx hb hr hown hlk hml hk hK hP hD hS ls hl
  have hl : lv_has ls 5 [(0, .ref tp), (1, .int (iI lo)), (2, .int (iI hi))] := hl
  have gD := zDg_b (f := f) gi
  cases bk with
  | true =>
    have hP : va_P D vwCl [(tp, .inr (1, [.ref ba, .int (iI ((nn : Int))), .int (iI ((i : Int))), .int (iI 1)])), (ba, .inl (cB, 400, .inl f))] s.heap := hP
    have hD : va_D (wA [(tp, .inr (1, [.ref ba, .int (iI ((nn : Int))), .int (iI ((i : Int))), .int (iI (bI true))])), (ba, .inl (cB, 400, .inl f))]) [(tp, .inr (1, [.ref ba, .int (iI ((nn : Int))), .int (iI ((i : Int))), .int (iI 1)])), (ba, .inl (cB, 400, .inl f))] := hD
    refine lv_aload_n hx hb d_Tape_readNumber_0 rfl (lv_at hl 0 rfl) ?_
    refine g_get hx hb hk hown hK hP 0 rfl f_Tape_22 rfl d_Tape_readNumber_1 ?_
    refine ri_if_eq (tgt := 9) hx hb d_Tape_readNumber_4 (by decide) (fun h4 => ?_) (fun h4 => ?_)
    · exfalso; omega
    · refine lv_iconst (v := iI 0) hx hb d_Tape_readNumber_7 rfl ?_
      exact m_iret hx hb hr hlk hP hS d_Tape_readNumber_8 (by rw [zNum_brk nn f lo hi (z := (i, true)) rfl]; rfl) (by rw [zNum_brk nn f lo hi (z := (i, true)) rfl])
  | false =>
    have hP : va_P D vwCl [(tp, .inr (1, [.ref ba, .int (iI ((nn : Int))), .int (iI ((i : Int))), .int (iI 0)])), (ba, .inl (cB, 400, .inl f))] s.heap := hP
    have hD : va_D (wA [(tp, .inr (1, [.ref ba, .int (iI ((nn : Int))), .int (iI ((i : Int))), .int (iI (bI false))])), (ba, .inl (cB, 400, .inl f))]) [(tp, .inr (1, [.ref ba, .int (iI ((nn : Int))), .int (iI ((i : Int))), .int (iI 0)])), (ba, .inl (cB, 400, .inl f))] := hD
    refine lv_aload_n hx hb d_Tape_readNumber_0 rfl (lv_at hl 0 rfl) ?_
    refine g_get hx hb hk hown hK hP 0 rfl f_Tape_22 rfl d_Tape_readNumber_1 ?_
    refine ri_if_eq (tgt := 9) hx hb d_Tape_readNumber_4 (by decide) (fun h4 => ?_) (fun h4 => ?_)
    · refine lv_aload_n hx hb d_Tape_readNumber_9 rfl (lv_at hl 0 rfl) ?_
      refine g_get hx hb hk hown hK hP 0 rfl f_Tape_19 rfl d_Tape_readNumber_10 ?_
      refine lv_istore_n (lv' := [(3, .int (iI ((i : Int)))), (0, .ref tp), (1, .int (iI lo)), (2, .int (iI hi))]) hx hb d_Tape_readNumber_13 rfl hl (by decide) rfl (fun ls hl => ?_)
      refine lv_aload_n hx hb d_Tape_readNumber_14 rfl (lv_at hl 1 rfl) ?_
      refine m_callV (rest := []) (q0 := 0) hx hb (hml.trans hl.1.symm) hown hk hK k_Tape_77 (ct_Tape_readDigits l D tys tp ba cB nn i false f hty (by omega) (by omega)) hP hD hS [0, 1] rfl rfl rfl rfl rfl rfl rfl ⟨rfl, rfl⟩ ⟨by decide, by decide, by decide, by decide⟩ (Nat.le_of_ble_eq_true rfl) d_Tape_readNumber_15 (fun H locs hP hD hS => ?_)
      have hP : va_P D vwCl [(tp, .inr (1, [.ref ba, .int (iI ((nn : Int))), .int (iI ((((zDg nn f i).2 : Nat) : Int))), .int (iI (bI false))])), (ba, .inl (cB, 400, .inl f))] H := hP
      have hD : va_D (wA [(tp, .inr (1, [.ref ba, .int (iI ((nn : Int))), .int (iI ((i : Int))), .int (iI (bI false))])), (ba, .inl (cB, 400, .inl f))]) [(tp, .inr (1, [.ref ba, .int (iI ((nn : Int))), .int (iI ((((zDg nn f i).2 : Nat) : Int))), .int (iI (bI false))])), (ba, .inl (cB, 400, .inl f))] := hD
      refine lv_istore (lv' := [(4, .int (iI ((zDg nn f i).1))), (3, .int (iI ((i : Int)))), (0, .ref tp), (1, .int (iI lo)), (2, .int (iI hi))]) hx hb d_Tape_readNumber_18 hl (by decide) rfl (fun ls hl => ?_)
      refine lv_iload hx hb d_Tape_readNumber_20 (lv_at hl 0 rfl) ?_
      refine lv_iload_n hx hb d_Tape_readNumber_22 rfl (lv_at hl 3 rfl) ?_
      refine ri_icmp_lt (tgt := 32) hx hb d_Tape_readNumber_23 (by decide) (fun h23 => ?_) (fun h23 => ?_)
      · refine lv_aload_n hx hb d_Tape_readNumber_32 rfl (lv_at hl 2 rfl) ?_
        refine lv_iload_n hx hb d_Tape_readNumber_33 rfl (lv_at hl 1 rfl) ?_
        refine g_put hx hb hk hown hK hP hD hS 0 rfl f_Tape_19 fT_Tape rfl (rfl) rfl (Nat.le_of_ble_eq_true rfl) d_Tape_readNumber_34 (fun H locs hP hD hS => ?_)
        have hP : va_P D vwCl [(tp, .inr (1, [.ref ba, .int (iI ((nn : Int))), .int (iI ((i : Int))), .int (iI (bI false))])), (ba, .inl (cB, 400, .inl f))] H := hP
        have hD : va_D (wA [(tp, .inr (1, [.ref ba, .int (iI ((nn : Int))), .int (iI ((i : Int))), .int (iI (bI false))])), (ba, .inl (cB, 400, .inl f))]) [(tp, .inr (1, [.ref ba, .int (iI ((nn : Int))), .int (iI ((i : Int))), .int (iI (bI false))])), (ba, .inl (cB, 400, .inl f))] := hD
        refine lv_aload_n hx hb d_Tape_readNumber_37 rfl (lv_at hl 2 rfl) ?_
        refine lv_iconst (v := iI 1) hx hb d_Tape_readNumber_38 rfl ?_
        refine g_put hx hb hk hown hK hP hD hS 0 rfl f_Tape_22 fT_Tape rfl (zb_nar (by decide)) rfl (Nat.le_of_ble_eq_true rfl) d_Tape_readNumber_39 (fun H locs hP hD hS => ?_)
        have hP : va_P D vwCl [(tp, .inr (1, [.ref ba, .int (iI ((nn : Int))), .int (iI ((i : Int))), .int (iI 1)])), (ba, .inl (cB, 400, .inl f))] H := hP
        have hD : va_D (wA [(tp, .inr (1, [.ref ba, .int (iI ((nn : Int))), .int (iI ((i : Int))), .int (iI (bI false))])), (ba, .inl (cB, 400, .inl f))]) [(tp, .inr (1, [.ref ba, .int (iI ((nn : Int))), .int (iI ((i : Int))), .int (iI 1)])), (ba, .inl (cB, 400, .inl f))] := hD
        refine lv_iload hx hb d_Tape_readNumber_42 (lv_at hl 0 rfl) ?_
        first
          | (have hR := zNum_bad (n := nn) (f := f) (lo := lo) (hi := hi) (i := i) (by omega)
             exact m_iret hx hb hr hlk hP hS d_Tape_readNumber_44 (by first | (rw [hR]; done) | (rw [hR]; rfl)) (by rw [hR]))
          | (have hR := zNum_good (n := nn) (f := f) (lo := lo) (hi := hi) (i := i) (by omega)
             exact m_iret hx hb hr hlk hP hS d_Tape_readNumber_44 (by first | (rw [hR]; done) | (rw [hR]; rfl)) (by rw [hR]))
      · refine lv_iload hx hb d_Tape_readNumber_26 (lv_at hl 0 rfl) ?_
        refine lv_iload_n hx hb d_Tape_readNumber_28 rfl (lv_at hl 4 rfl) ?_
        refine ri_icmp_le (tgt := 42) hx hb d_Tape_readNumber_29 (by decide) (fun h29 => ?_) (fun h29 => ?_)
        · refine lv_iload hx hb d_Tape_readNumber_42 (lv_at hl 0 rfl) ?_
          first
            | (have hR := zNum_bad (n := nn) (f := f) (lo := lo) (hi := hi) (i := i) (by omega)
               exact m_iret hx hb hr hlk hP hS d_Tape_readNumber_44 (by first | (rw [hR]; done) | (rw [hR]; rfl)) (by rw [hR]))
            | (have hR := zNum_good (n := nn) (f := f) (lo := lo) (hi := hi) (i := i) (by omega)
               exact m_iret hx hb hr hlk hP hS d_Tape_readNumber_44 (by first | (rw [hR]; done) | (rw [hR]; rfl)) (by rw [hR]))
        · refine lv_aload_n hx hb d_Tape_readNumber_32 rfl (lv_at hl 2 rfl) ?_
          refine lv_iload_n hx hb d_Tape_readNumber_33 rfl (lv_at hl 1 rfl) ?_
          refine g_put hx hb hk hown hK hP hD hS 0 rfl f_Tape_19 fT_Tape rfl (rfl) rfl (Nat.le_of_ble_eq_true rfl) d_Tape_readNumber_34 (fun H locs hP hD hS => ?_)
          have hP : va_P D vwCl [(tp, .inr (1, [.ref ba, .int (iI ((nn : Int))), .int (iI ((i : Int))), .int (iI (bI false))])), (ba, .inl (cB, 400, .inl f))] H := hP
          have hD : va_D (wA [(tp, .inr (1, [.ref ba, .int (iI ((nn : Int))), .int (iI ((i : Int))), .int (iI (bI false))])), (ba, .inl (cB, 400, .inl f))]) [(tp, .inr (1, [.ref ba, .int (iI ((nn : Int))), .int (iI ((i : Int))), .int (iI (bI false))])), (ba, .inl (cB, 400, .inl f))] := hD
          refine lv_aload_n hx hb d_Tape_readNumber_37 rfl (lv_at hl 2 rfl) ?_
          refine lv_iconst (v := iI 1) hx hb d_Tape_readNumber_38 rfl ?_
          refine g_put hx hb hk hown hK hP hD hS 0 rfl f_Tape_22 fT_Tape rfl (zb_nar (by decide)) rfl (Nat.le_of_ble_eq_true rfl) d_Tape_readNumber_39 (fun H locs hP hD hS => ?_)
          have hP : va_P D vwCl [(tp, .inr (1, [.ref ba, .int (iI ((nn : Int))), .int (iI ((i : Int))), .int (iI 1)])), (ba, .inl (cB, 400, .inl f))] H := hP
          have hD : va_D (wA [(tp, .inr (1, [.ref ba, .int (iI ((nn : Int))), .int (iI ((i : Int))), .int (iI (bI false))])), (ba, .inl (cB, 400, .inl f))]) [(tp, .inr (1, [.ref ba, .int (iI ((nn : Int))), .int (iI ((i : Int))), .int (iI 1)])), (ba, .inl (cB, 400, .inl f))] := hD
          refine lv_iload hx hb d_Tape_readNumber_42 (lv_at hl 0 rfl) ?_
          first
            | (have hR := zNum_bad (n := nn) (f := f) (lo := lo) (hi := hi) (i := i) (by omega)
               exact m_iret hx hb hr hlk hP hS d_Tape_readNumber_44 (by first | (rw [hR]; done) | (rw [hR]; rfl)) (by rw [hR]))
            | (have hR := zNum_good (n := nn) (f := f) (lo := lo) (hi := hi) (i := i) (by omega)
               exact m_iret hx hb hr hlk hP hS d_Tape_readNumber_44 (by first | (rw [hR]; done) | (rw [hR]; rfl)) (by rw [hR]))
    · exfalso; omega
end
section
/-! Contracts: Tape (rules, zones, appending), become. By program (wip/whole/m_tape2.py). -/
abbrev rm_Rule_become : Room := { frames := 0, cells := 0, slots := 0, locals := 0 }
set_option maxHeartbeats 4000000 in
set_option maxRecDepth 100000 in
theorem ct_Rule_become (l : Launch) (D : va_G) (tys : List (ClassId × FieldType)) (a : Nat) (o : Nat) (a1 : Int) (a2 : Int) (a3 : Int) (a4 : Int) (b1 : Int) (b2 : Int) (b3 : Int) (b4 : Int)  : mMet l y_Rule_become c_Rule_become 2 none rm_Rule_become D tys [.ref a, .ref o] [(a, .inr (0, [.int (iI a1), .int (iI a2), .int (iI a3), .int (iI a4)])), (o, .inr (0, [.int (iI b1), .int (iI b2), .int (iI b3), .int (iI b4)]))] none [(a, .inr (0, [.int (iI b1), .int (iI b2), .int (iI b3), .int (iI b4)])), (o, .inr (0, [.int (iI b1), .int (iI b2), .int (iI b3), .int (iI b4)]))] := by
  refine mMet_of (by decide) (Nat.le_of_ble_eq_true rfl) ?_
  intro p e s m below meth c hx hb hr hown hlk hml hk hK hP hD hS ls hl
  have hl : lv_has ls 2 [(0, .ref a), (1, .ref o)] := hl
  refine lv_aload_n hx hb d_Rule_become_0 rfl (lv_at hl 0 rfl) ?_
  refine lv_aload_n hx hb d_Rule_become_1 rfl (lv_at hl 1 rfl) ?_
  refine g_get hx hb hk hown hK hP 1 rfl f_Rule_9 rfl d_Rule_become_2 ?_
  refine g_put hx hb hk hown hK hP hD hS 0 rfl f_Rule_9 fT_Rule rfl (rfl) rfl (Nat.le_of_ble_eq_true rfl) d_Rule_become_5 (fun H locs hP hD hS => ?_)
  have hP : va_P D vwCl [(a, .inr (0, [.int (iI b1), .int (iI a2), .int (iI a3), .int (iI a4)])), (o, .inr (0, [.int (iI b1), .int (iI b2), .int (iI b3), .int (iI b4)]))] H := hP
  have hD : va_D (wA [(a, .inr (0, [.int (iI a1), .int (iI a2), .int (iI a3), .int (iI a4)])), (o, .inr (0, [.int (iI b1), .int (iI b2), .int (iI b3), .int (iI b4)]))]) [(a, .inr (0, [.int (iI b1), .int (iI a2), .int (iI a3), .int (iI a4)])), (o, .inr (0, [.int (iI b1), .int (iI b2), .int (iI b3), .int (iI b4)]))] := hD
  refine lv_aload_n hx hb d_Rule_become_8 rfl (lv_at hl 0 rfl) ?_
  refine lv_aload_n hx hb d_Rule_become_9 rfl (lv_at hl 1 rfl) ?_
  refine g_get hx hb hk hown hK hP 1 rfl f_Rule_15 rfl d_Rule_become_10 ?_
  refine g_put hx hb hk hown hK hP hD hS 0 rfl f_Rule_15 fT_Rule rfl (rfl) rfl (Nat.le_of_ble_eq_true rfl) d_Rule_become_13 (fun H locs hP hD hS => ?_)
  have hP : va_P D vwCl [(a, .inr (0, [.int (iI b1), .int (iI b2), .int (iI a3), .int (iI a4)])), (o, .inr (0, [.int (iI b1), .int (iI b2), .int (iI b3), .int (iI b4)]))] H := hP
  have hD : va_D (wA [(a, .inr (0, [.int (iI a1), .int (iI a2), .int (iI a3), .int (iI a4)])), (o, .inr (0, [.int (iI b1), .int (iI b2), .int (iI b3), .int (iI b4)]))]) [(a, .inr (0, [.int (iI b1), .int (iI b2), .int (iI a3), .int (iI a4)])), (o, .inr (0, [.int (iI b1), .int (iI b2), .int (iI b3), .int (iI b4)]))] := hD
  refine lv_aload_n hx hb d_Rule_become_16 rfl (lv_at hl 0 rfl) ?_
  refine lv_aload_n hx hb d_Rule_become_17 rfl (lv_at hl 1 rfl) ?_
  refine g_get hx hb hk hown hK hP 1 rfl f_Rule_18 rfl d_Rule_become_18 ?_
  refine g_put hx hb hk hown hK hP hD hS 0 rfl f_Rule_18 fT_Rule rfl (rfl) rfl (Nat.le_of_ble_eq_true rfl) d_Rule_become_21 (fun H locs hP hD hS => ?_)
  have hP : va_P D vwCl [(a, .inr (0, [.int (iI b1), .int (iI b2), .int (iI b3), .int (iI a4)])), (o, .inr (0, [.int (iI b1), .int (iI b2), .int (iI b3), .int (iI b4)]))] H := hP
  have hD : va_D (wA [(a, .inr (0, [.int (iI a1), .int (iI a2), .int (iI a3), .int (iI a4)])), (o, .inr (0, [.int (iI b1), .int (iI b2), .int (iI b3), .int (iI b4)]))]) [(a, .inr (0, [.int (iI b1), .int (iI b2), .int (iI b3), .int (iI a4)])), (o, .inr (0, [.int (iI b1), .int (iI b2), .int (iI b3), .int (iI b4)]))] := hD
  refine lv_aload_n hx hb d_Rule_become_24 rfl (lv_at hl 0 rfl) ?_
  refine lv_aload_n hx hb d_Rule_become_25 rfl (lv_at hl 1 rfl) ?_
  refine g_get hx hb hk hown hK hP 1 rfl f_Rule_21 rfl d_Rule_become_26 ?_
  refine g_put hx hb hk hown hK hP hD hS 0 rfl f_Rule_21 fT_Rule rfl (rfl) rfl (Nat.le_of_ble_eq_true rfl) d_Rule_become_29 (fun H locs hP hD hS => ?_)
  have hP : va_P D vwCl [(a, .inr (0, [.int (iI b1), .int (iI b2), .int (iI b3), .int (iI b4)])), (o, .inr (0, [.int (iI b1), .int (iI b2), .int (iI b3), .int (iI b4)]))] H := hP
  have hD : va_D (wA [(a, .inr (0, [.int (iI a1), .int (iI a2), .int (iI a3), .int (iI a4)])), (o, .inr (0, [.int (iI b1), .int (iI b2), .int (iI b3), .int (iI b4)]))]) [(a, .inr (0, [.int (iI b1), .int (iI b2), .int (iI b3), .int (iI b4)])), (o, .inr (0, [.int (iI b1), .int (iI b2), .int (iI b3), .int (iI b4)]))] := hD
  exact m_vret hx hb hr hlk hP hS d_Rule_become_32 (by rfl)
abbrev rm_Zone_become : Room := { frames := 1, cells := 0, slots := 0, locals := 21 }
set_option maxHeartbeats 4000000 in
set_option maxRecDepth 100000 in
theorem ct_Zone_become (l : Launch) (D : va_G) (tys : List (ClassId × FieldType)) (za : Nat) (zab : Nat) (zae : Nat) (xoff : Int) (xsv : Int) (xb1 : Int) (xb2 : Int) (xb3 : Int) (xb4 : Int) (xe1 : Int) (xe2 : Int) (xe3 : Int) (xe4 : Int) (zo : Nat) (zob : Nat) (zoe : Nat) (uoff : Int) (usv : Int) (ub1 : Int) (ub2 : Int) (ub3 : Int) (ub4 : Int) (ue1 : Int) (ue2 : Int) (ue3 : Int) (ue4 : Int)  : mMet l y_Zone_become c_Zone_become 2 none rm_Zone_become D tys [.ref za, .ref zo] [(za, .inr (2, [.int (iI xoff), .int (iI xsv), .ref zab, .ref zae])), (zab, .inr (0, [.int (iI xb1), .int (iI xb2), .int (iI xb3), .int (iI xb4)])), (zae, .inr (0, [.int (iI xe1), .int (iI xe2), .int (iI xe3), .int (iI xe4)])), (zo, .inr (2, [.int (iI uoff), .int (iI usv), .ref zob, .ref zoe])), (zob, .inr (0, [.int (iI ub1), .int (iI ub2), .int (iI ub3), .int (iI ub4)])), (zoe, .inr (0, [.int (iI ue1), .int (iI ue2), .int (iI ue3), .int (iI ue4)]))] none [(za, .inr (2, [.int (iI uoff), .int (iI usv), .ref zab, .ref zae])), (zab, .inr (0, [.int (iI ub1), .int (iI ub2), .int (iI ub3), .int (iI ub4)])), (zae, .inr (0, [.int (iI ue1), .int (iI ue2), .int (iI ue3), .int (iI ue4)])), (zo, .inr (2, [.int (iI uoff), .int (iI usv), .ref zob, .ref zoe])), (zob, .inr (0, [.int (iI ub1), .int (iI ub2), .int (iI ub3), .int (iI ub4)])), (zoe, .inr (0, [.int (iI ue1), .int (iI ue2), .int (iI ue3), .int (iI ue4)]))] := by
  refine mMet_of (by decide) (Nat.le_of_ble_eq_true rfl) ?_
  intro p e s m below meth c hx hb hr hown hlk hml hk hK hP hD hS ls hl
  have hl : lv_has ls 2 [(0, .ref za), (1, .ref zo)] := hl
  refine lv_aload_n hx hb d_Zone_become_0 rfl (lv_at hl 0 rfl) ?_
  refine lv_aload_n hx hb d_Zone_become_1 rfl (lv_at hl 1 rfl) ?_
  refine g_get hx hb hk hown hK hP 3 rfl f_Zone_21 rfl d_Zone_become_2 ?_
  refine g_put hx hb hk hown hK hP hD hS 0 rfl f_Zone_21 fT_Zone rfl (rfl) rfl (Nat.le_of_ble_eq_true rfl) d_Zone_become_5 (fun H locs hP hD hS => ?_)
  have hP : va_P D vwCl [(za, .inr (2, [.int (iI uoff), .int (iI xsv), .ref zab, .ref zae])), (zab, .inr (0, [.int (iI xb1), .int (iI xb2), .int (iI xb3), .int (iI xb4)])), (zae, .inr (0, [.int (iI xe1), .int (iI xe2), .int (iI xe3), .int (iI xe4)])), (zo, .inr (2, [.int (iI uoff), .int (iI usv), .ref zob, .ref zoe])), (zob, .inr (0, [.int (iI ub1), .int (iI ub2), .int (iI ub3), .int (iI ub4)])), (zoe, .inr (0, [.int (iI ue1), .int (iI ue2), .int (iI ue3), .int (iI ue4)]))] H := hP
  have hD : va_D (wA [(za, .inr (2, [.int (iI xoff), .int (iI xsv), .ref zab, .ref zae])), (zab, .inr (0, [.int (iI xb1), .int (iI xb2), .int (iI xb3), .int (iI xb4)])), (zae, .inr (0, [.int (iI xe1), .int (iI xe2), .int (iI xe3), .int (iI xe4)])), (zo, .inr (2, [.int (iI uoff), .int (iI usv), .ref zob, .ref zoe])), (zob, .inr (0, [.int (iI ub1), .int (iI ub2), .int (iI ub3), .int (iI ub4)])), (zoe, .inr (0, [.int (iI ue1), .int (iI ue2), .int (iI ue3), .int (iI ue4)]))]) [(za, .inr (2, [.int (iI uoff), .int (iI xsv), .ref zab, .ref zae])), (zab, .inr (0, [.int (iI xb1), .int (iI xb2), .int (iI xb3), .int (iI xb4)])), (zae, .inr (0, [.int (iI xe1), .int (iI xe2), .int (iI xe3), .int (iI xe4)])), (zo, .inr (2, [.int (iI uoff), .int (iI usv), .ref zob, .ref zoe])), (zob, .inr (0, [.int (iI ub1), .int (iI ub2), .int (iI ub3), .int (iI ub4)])), (zoe, .inr (0, [.int (iI ue1), .int (iI ue2), .int (iI ue3), .int (iI ue4)]))] := hD
  refine lv_aload_n hx hb d_Zone_become_8 rfl (lv_at hl 0 rfl) ?_
  refine lv_aload_n hx hb d_Zone_become_9 rfl (lv_at hl 1 rfl) ?_
  refine g_get hx hb hk hown hK hP 3 rfl f_Zone_25 rfl d_Zone_become_10 ?_
  refine g_put hx hb hk hown hK hP hD hS 0 rfl f_Zone_25 fT_Zone rfl (rfl) rfl (Nat.le_of_ble_eq_true rfl) d_Zone_become_13 (fun H locs hP hD hS => ?_)
  have hP : va_P D vwCl [(za, .inr (2, [.int (iI uoff), .int (iI usv), .ref zab, .ref zae])), (zab, .inr (0, [.int (iI xb1), .int (iI xb2), .int (iI xb3), .int (iI xb4)])), (zae, .inr (0, [.int (iI xe1), .int (iI xe2), .int (iI xe3), .int (iI xe4)])), (zo, .inr (2, [.int (iI uoff), .int (iI usv), .ref zob, .ref zoe])), (zob, .inr (0, [.int (iI ub1), .int (iI ub2), .int (iI ub3), .int (iI ub4)])), (zoe, .inr (0, [.int (iI ue1), .int (iI ue2), .int (iI ue3), .int (iI ue4)]))] H := hP
  have hD : va_D (wA [(za, .inr (2, [.int (iI xoff), .int (iI xsv), .ref zab, .ref zae])), (zab, .inr (0, [.int (iI xb1), .int (iI xb2), .int (iI xb3), .int (iI xb4)])), (zae, .inr (0, [.int (iI xe1), .int (iI xe2), .int (iI xe3), .int (iI xe4)])), (zo, .inr (2, [.int (iI uoff), .int (iI usv), .ref zob, .ref zoe])), (zob, .inr (0, [.int (iI ub1), .int (iI ub2), .int (iI ub3), .int (iI ub4)])), (zoe, .inr (0, [.int (iI ue1), .int (iI ue2), .int (iI ue3), .int (iI ue4)]))]) [(za, .inr (2, [.int (iI uoff), .int (iI usv), .ref zab, .ref zae])), (zab, .inr (0, [.int (iI xb1), .int (iI xb2), .int (iI xb3), .int (iI xb4)])), (zae, .inr (0, [.int (iI xe1), .int (iI xe2), .int (iI xe3), .int (iI xe4)])), (zo, .inr (2, [.int (iI uoff), .int (iI usv), .ref zob, .ref zoe])), (zob, .inr (0, [.int (iI ub1), .int (iI ub2), .int (iI ub3), .int (iI ub4)])), (zoe, .inr (0, [.int (iI ue1), .int (iI ue2), .int (iI ue3), .int (iI ue4)]))] := hD
  refine lv_aload_n hx hb d_Zone_become_16 rfl (lv_at hl 0 rfl) ?_
  refine g_get hx hb hk hown hK hP 0 rfl f_Zone_12 rfl d_Zone_become_17 ?_
  refine lv_aload_n hx hb d_Zone_become_20 rfl (lv_at hl 1 rfl) ?_
  refine g_get hx hb hk hown hK hP 3 rfl f_Zone_12 rfl d_Zone_become_21 ?_
  refine m_callV (rest := []) (q0 := 0) hx hb (hml.trans hl.1.symm) hown hk hK k_Zone_28 (ct_Rule_become l D tys zab zob xb1 xb2 xb3 xb4 ub1 ub2 ub3 ub4 ) hP hD hS [1, 4] rfl rfl rfl rfl rfl rfl rfl ⟨rfl, rfl⟩ ⟨by decide, by decide, by decide, by decide⟩ (Nat.le_of_ble_eq_true rfl) d_Zone_become_24 (fun H locs hP hD hS => ?_)
  have hP : va_P D vwCl [(za, .inr (2, [.int (iI uoff), .int (iI usv), .ref zab, .ref zae])), (zab, .inr (0, [.int (iI ub1), .int (iI ub2), .int (iI ub3), .int (iI ub4)])), (zae, .inr (0, [.int (iI xe1), .int (iI xe2), .int (iI xe3), .int (iI xe4)])), (zo, .inr (2, [.int (iI uoff), .int (iI usv), .ref zob, .ref zoe])), (zob, .inr (0, [.int (iI ub1), .int (iI ub2), .int (iI ub3), .int (iI ub4)])), (zoe, .inr (0, [.int (iI ue1), .int (iI ue2), .int (iI ue3), .int (iI ue4)]))] H := hP
  have hD : va_D (wA [(za, .inr (2, [.int (iI xoff), .int (iI xsv), .ref zab, .ref zae])), (zab, .inr (0, [.int (iI xb1), .int (iI xb2), .int (iI xb3), .int (iI xb4)])), (zae, .inr (0, [.int (iI xe1), .int (iI xe2), .int (iI xe3), .int (iI xe4)])), (zo, .inr (2, [.int (iI uoff), .int (iI usv), .ref zob, .ref zoe])), (zob, .inr (0, [.int (iI ub1), .int (iI ub2), .int (iI ub3), .int (iI ub4)])), (zoe, .inr (0, [.int (iI ue1), .int (iI ue2), .int (iI ue3), .int (iI ue4)]))]) [(za, .inr (2, [.int (iI uoff), .int (iI usv), .ref zab, .ref zae])), (zab, .inr (0, [.int (iI ub1), .int (iI ub2), .int (iI ub3), .int (iI ub4)])), (zae, .inr (0, [.int (iI xe1), .int (iI xe2), .int (iI xe3), .int (iI xe4)])), (zo, .inr (2, [.int (iI uoff), .int (iI usv), .ref zob, .ref zoe])), (zob, .inr (0, [.int (iI ub1), .int (iI ub2), .int (iI ub3), .int (iI ub4)])), (zoe, .inr (0, [.int (iI ue1), .int (iI ue2), .int (iI ue3), .int (iI ue4)]))] := hD
  refine lv_aload_n hx hb d_Zone_become_27 rfl (lv_at hl 0 rfl) ?_
  refine g_get hx hb hk hown hK hP 0 rfl f_Zone_18 rfl d_Zone_become_28 ?_
  refine lv_aload_n hx hb d_Zone_become_31 rfl (lv_at hl 1 rfl) ?_
  refine g_get hx hb hk hown hK hP 3 rfl f_Zone_18 rfl d_Zone_become_32 ?_
  refine m_callV (rest := []) (q0 := 0) hx hb (hml.trans hl.1.symm) hown hk hK k_Zone_28 (ct_Rule_become l D tys zae zoe xe1 xe2 xe3 xe4 ue1 ue2 ue3 ue4 ) hP hD hS [2, 5] rfl rfl rfl rfl rfl rfl rfl ⟨rfl, rfl⟩ ⟨by decide, by decide, by decide, by decide⟩ (Nat.le_of_ble_eq_true rfl) d_Zone_become_35 (fun H locs hP hD hS => ?_)
  have hP : va_P D vwCl [(za, .inr (2, [.int (iI uoff), .int (iI usv), .ref zab, .ref zae])), (zab, .inr (0, [.int (iI ub1), .int (iI ub2), .int (iI ub3), .int (iI ub4)])), (zae, .inr (0, [.int (iI ue1), .int (iI ue2), .int (iI ue3), .int (iI ue4)])), (zo, .inr (2, [.int (iI uoff), .int (iI usv), .ref zob, .ref zoe])), (zob, .inr (0, [.int (iI ub1), .int (iI ub2), .int (iI ub3), .int (iI ub4)])), (zoe, .inr (0, [.int (iI ue1), .int (iI ue2), .int (iI ue3), .int (iI ue4)]))] H := hP
  have hD : va_D (wA [(za, .inr (2, [.int (iI xoff), .int (iI xsv), .ref zab, .ref zae])), (zab, .inr (0, [.int (iI xb1), .int (iI xb2), .int (iI xb3), .int (iI xb4)])), (zae, .inr (0, [.int (iI xe1), .int (iI xe2), .int (iI xe3), .int (iI xe4)])), (zo, .inr (2, [.int (iI uoff), .int (iI usv), .ref zob, .ref zoe])), (zob, .inr (0, [.int (iI ub1), .int (iI ub2), .int (iI ub3), .int (iI ub4)])), (zoe, .inr (0, [.int (iI ue1), .int (iI ue2), .int (iI ue3), .int (iI ue4)]))]) [(za, .inr (2, [.int (iI uoff), .int (iI usv), .ref zab, .ref zae])), (zab, .inr (0, [.int (iI ub1), .int (iI ub2), .int (iI ub3), .int (iI ub4)])), (zae, .inr (0, [.int (iI ue1), .int (iI ue2), .int (iI ue3), .int (iI ue4)])), (zo, .inr (2, [.int (iI uoff), .int (iI usv), .ref zob, .ref zoe])), (zob, .inr (0, [.int (iI ub1), .int (iI ub2), .int (iI ub3), .int (iI ub4)])), (zoe, .inr (0, [.int (iI ue1), .int (iI ue2), .int (iI ue3), .int (iI ue4)]))] := hD
  exact m_vret hx hb hr hlk hP hS d_Zone_become_38 (by rfl)
abbrev rm_Tape_readOffset : Room := { frames := 3, cells := 0, slots := 0, locals := 67 }
set_option maxHeartbeats 4000000 in
set_option maxRecDepth 100000 in
theorem ct_Tape_readOffset (l : Launch) (D : va_G) (tys : List (ClassId × FieldType)) (tp : Nat) (ba : Nat) (cB : ClassId) (nn : Nat) (f : Nat → Int32) (hty : tys[0]? = some (cB, .byte)) (gn : nn ≤ 400) : mMet l y_Tape_readOffset c_Tape_readOffset 3 (some .int) rm_Tape_readOffset D tys [.ref tp] [(tp, .inr (1, [.ref ba, .int (iI ((nn : Int))), .int (iI 0), .int (iI 0)])), (ba, .inl (cB, 400, .inl f))] (some (.int (iI (zOff nn f)))) [(tp, .inr (1, [.ref ba, .int (iI ((nn : Int))), .int (iI ((((zS2 nn f).2.1 : Nat) : Int))), .int (iI (bI ((zS2 nn f).2.2)))])), (ba, .inl (cB, 400, .inl f))] := by
  refine mMet_of (by decide) (Nat.le_of_ble_eq_true rfl) ?_
  intro p e s m below meth c hx hb hr hown hlk hml hk hK hP hD hS ls hl
  have hl : lv_has ls 3 [(0, .ref tp)] := hl
  refine lv_aload_n hx hb d_Tape_readOffset_0 rfl (lv_at hl 0 rfl) ?_
  refine p_callV (rest := []) (q0 := 0) hx hb (hml.trans hl.1.symm) hown hk hK k_Tape_56 (ct_Tape_nextByte l D tys tp ba cB nn 0 false f hty (by omega) (by omega)) (w_subP (is := [0, 1]) hP rfl) (w_subD (is := [0, 1]) hD rfl rfl) rfl rfl rfl rfl ⟨rfl, rfl⟩ ⟨by decide, by decide, by decide, by decide⟩ (Nat.le_of_ble_eq_true rfl) d_Tape_readOffset_1 ?_
  have gP := zPk_b nn f 0
  refine lv_bipush (v := iI 45) hx hb d_Tape_readOffset_4 (by decide) ?_
  refine ri_icmp_ne (tgt := 13) hx hb d_Tape_readOffset_6 (by decide) (fun h6 => ?_) (fun h6 => ?_)
  · refine lv_iconst (v := iI 0) hx hb d_Tape_readOffset_13 rfl ?_
    refine lv_istore_n (lv' := [(1, .int (iI 0)), (0, .ref tp)]) hx hb d_Tape_readOffset_14 rfl hl (by decide) rfl (fun ls hl => ?_)
    refine lv_aload_n hx hb d_Tape_readOffset_15 rfl (lv_at hl 1 rfl) ?_
    refine lv_iload_n hx hb d_Tape_readOffset_16 rfl (lv_at hl 0 rfl) ?_
    refine ri_if_eq (tgt := 25) hx hb d_Tape_readOffset_17 (by decide) (fun h17 => ?_) (fun h17 => ?_)
    · refine lv_bipush (v := iI 43) hx hb d_Tape_readOffset_25 (by decide) ?_
      refine m_callV (rest := []) (q0 := 0) hx hb (hml.trans hl.1.symm) hown hk hK k_Tape_59 (ct_Tape_readByte l D tys tp ba cB nn 0 false f 43 hty (by omega) (by omega) (by omega) (by omega)) hP hD hS [0, 1] rfl rfl rfl rfl rfl rfl rfl ⟨rfl, rfl⟩ ⟨by decide, by decide, by decide, by decide⟩ (Nat.le_of_ble_eq_true rfl) d_Tape_readOffset_27 (fun H locs hP hD hS => ?_)
      have hP : va_P D vwCl [(tp, .inr (1, [.ref ba, .int (iI ((nn : Int))), .int (iI ((((zByte nn f 43 (0, false)).1 : Nat) : Int))), .int (iI (bI ((zByte nn f 43 (0, false)).2)))])), (ba, .inl (cB, 400, .inl f))] H := hP
      have hD : va_D (wA [(tp, .inr (1, [.ref ba, .int (iI ((nn : Int))), .int (iI 0), .int (iI 0)])), (ba, .inl (cB, 400, .inl f))]) [(tp, .inr (1, [.ref ba, .int (iI ((nn : Int))), .int (iI ((((zByte nn f 43 (0, false)).1 : Nat) : Int))), .int (iI (bI ((zByte nn f 43 (0, false)).2)))])), (ba, .inl (cB, 400, .inl f))] := hD
      have gz := (zByte_b (n := nn) (f := f) (c := 43) (z := (0, false)) (by decide) (Nat.zero_le _)).2
      refine lv_aload_n hx hb d_Tape_readOffset_30 rfl (lv_at hl 1 rfl) ?_
      refine lv_iconst (v := iI 0) hx hb d_Tape_readOffset_31 rfl ?_
      refine lv_sipush (v := iI 840) hx hb d_Tape_readOffset_32 (by decide) ?_
      refine m_callV (rest := []) (q0 := 0) hx hb (hml.trans hl.1.symm) hown hk hK k_Tape_41 (ct_Tape_readNumber l D tys tp ba cB nn ((zByte nn f 43 (0, false)).1) ((zByte nn f 43 (0, false)).2) f 0 840 hty (by omega) gz (by omega) (by omega) (by omega) (by omega)) hP hD hS [0, 1] rfl rfl rfl rfl rfl rfl rfl ⟨rfl, rfl⟩ ⟨by decide, by decide, by decide, by decide⟩ (Nat.le_of_ble_eq_true rfl) d_Tape_readOffset_35 (fun H locs hP hD hS => ?_)
      have hP : va_P D vwCl [(tp, .inr (1, [.ref ba, .int (iI ((nn : Int))), .int (iI ((((zNum nn f 0 840 (((zByte nn f 43 (0, false)).1), ((zByte nn f 43 (0, false)).2))).2.1 : Nat) : Int))), .int (iI (bI ((zNum nn f 0 840 (((zByte nn f 43 (0, false)).1), ((zByte nn f 43 (0, false)).2))).2.2)))])), (ba, .inl (cB, 400, .inl f))] H := hP
      have hD : va_D (wA [(tp, .inr (1, [.ref ba, .int (iI ((nn : Int))), .int (iI 0), .int (iI 0)])), (ba, .inl (cB, 400, .inl f))]) [(tp, .inr (1, [.ref ba, .int (iI ((nn : Int))), .int (iI ((((zNum nn f 0 840 (((zByte nn f 43 (0, false)).1), ((zByte nn f 43 (0, false)).2))).2.1 : Nat) : Int))), .int (iI (bI ((zNum nn f 0 840 (((zByte nn f 43 (0, false)).1), ((zByte nn f 43 (0, false)).2))).2.2)))])), (ba, .inl (cB, 400, .inl f))] := hD
      refine lv_istore_n (lv' := [(2, .int (iI ((zNum nn f 0 840 (((zByte nn f 43 (0, false)).1), ((zByte nn f 43 (0, false)).2))).1))), (1, .int (iI 0)), (0, .ref tp)]) hx hb d_Tape_readOffset_38 rfl hl (by decide) rfl (fun ls hl => ?_)
      refine lv_iload_n hx hb d_Tape_readOffset_39 rfl (lv_at hl 1 rfl) ?_
      refine ri_if_eq (tgt := 48) hx hb d_Tape_readOffset_40 (by decide) (fun h40 => ?_) (fun h40 => ?_)
      · refine lv_iload_n hx hb d_Tape_readOffset_48 rfl (lv_at hl 0 rfl) ?_
        have hS2 : zS2 nn f = zNum nn f 0 840 (zByte nn f 43 (0, false)) := by unfold zS2; rw [if_neg h6]
        exact m_iret hx hb hr hlk hP hS d_Tape_readOffset_49 (by rw [hS2]) (by unfold zOff; rw [if_neg h6, hS2])
      · exfalso; omega
    · exfalso; omega
  · refine lv_iconst (v := iI 1) hx hb d_Tape_readOffset_9 rfl ?_
    refine lv_goto (tgt := 14) hx hb d_Tape_readOffset_10 (by decide) ?_
    refine lv_istore_n (lv' := [(1, .int (iI 1)), (0, .ref tp)]) hx hb d_Tape_readOffset_14 rfl hl (by decide) rfl (fun ls hl => ?_)
    refine lv_aload_n hx hb d_Tape_readOffset_15 rfl (lv_at hl 1 rfl) ?_
    refine lv_iload_n hx hb d_Tape_readOffset_16 rfl (lv_at hl 0 rfl) ?_
    refine ri_if_eq (tgt := 25) hx hb d_Tape_readOffset_17 (by decide) (fun h17 => ?_) (fun h17 => ?_)
    · exfalso; omega
    · refine lv_bipush (v := iI 45) hx hb d_Tape_readOffset_20 (by decide) ?_
      refine lv_goto (tgt := 27) hx hb d_Tape_readOffset_22 (by decide) ?_
      refine m_callV (rest := []) (q0 := 0) hx hb (hml.trans hl.1.symm) hown hk hK k_Tape_59 (ct_Tape_readByte l D tys tp ba cB nn 0 false f 45 hty (by omega) (by omega) (by omega) (by omega)) hP hD hS [0, 1] rfl rfl rfl rfl rfl rfl rfl ⟨rfl, rfl⟩ ⟨by decide, by decide, by decide, by decide⟩ (Nat.le_of_ble_eq_true rfl) d_Tape_readOffset_27 (fun H locs hP hD hS => ?_)
      have hP : va_P D vwCl [(tp, .inr (1, [.ref ba, .int (iI ((nn : Int))), .int (iI ((((zByte nn f 45 (0, false)).1 : Nat) : Int))), .int (iI (bI ((zByte nn f 45 (0, false)).2)))])), (ba, .inl (cB, 400, .inl f))] H := hP
      have hD : va_D (wA [(tp, .inr (1, [.ref ba, .int (iI ((nn : Int))), .int (iI 0), .int (iI 0)])), (ba, .inl (cB, 400, .inl f))]) [(tp, .inr (1, [.ref ba, .int (iI ((nn : Int))), .int (iI ((((zByte nn f 45 (0, false)).1 : Nat) : Int))), .int (iI (bI ((zByte nn f 45 (0, false)).2)))])), (ba, .inl (cB, 400, .inl f))] := hD
      have gz := (zByte_b (n := nn) (f := f) (c := 45) (z := (0, false)) (by decide) (Nat.zero_le _)).2
      refine lv_aload_n hx hb d_Tape_readOffset_30 rfl (lv_at hl 1 rfl) ?_
      refine lv_iconst (v := iI 0) hx hb d_Tape_readOffset_31 rfl ?_
      refine lv_sipush (v := iI 840) hx hb d_Tape_readOffset_32 (by decide) ?_
      refine m_callV (rest := []) (q0 := 0) hx hb (hml.trans hl.1.symm) hown hk hK k_Tape_41 (ct_Tape_readNumber l D tys tp ba cB nn ((zByte nn f 45 (0, false)).1) ((zByte nn f 45 (0, false)).2) f 0 840 hty (by omega) gz (by omega) (by omega) (by omega) (by omega)) hP hD hS [0, 1] rfl rfl rfl rfl rfl rfl rfl ⟨rfl, rfl⟩ ⟨by decide, by decide, by decide, by decide⟩ (Nat.le_of_ble_eq_true rfl) d_Tape_readOffset_35 (fun H locs hP hD hS => ?_)
      have hP : va_P D vwCl [(tp, .inr (1, [.ref ba, .int (iI ((nn : Int))), .int (iI ((((zNum nn f 0 840 (((zByte nn f 45 (0, false)).1), ((zByte nn f 45 (0, false)).2))).2.1 : Nat) : Int))), .int (iI (bI ((zNum nn f 0 840 (((zByte nn f 45 (0, false)).1), ((zByte nn f 45 (0, false)).2))).2.2)))])), (ba, .inl (cB, 400, .inl f))] H := hP
      have hD : va_D (wA [(tp, .inr (1, [.ref ba, .int (iI ((nn : Int))), .int (iI 0), .int (iI 0)])), (ba, .inl (cB, 400, .inl f))]) [(tp, .inr (1, [.ref ba, .int (iI ((nn : Int))), .int (iI ((((zNum nn f 0 840 (((zByte nn f 45 (0, false)).1), ((zByte nn f 45 (0, false)).2))).2.1 : Nat) : Int))), .int (iI (bI ((zNum nn f 0 840 (((zByte nn f 45 (0, false)).1), ((zByte nn f 45 (0, false)).2))).2.2)))])), (ba, .inl (cB, 400, .inl f))] := hD
      refine lv_istore_n (lv' := [(2, .int (iI ((zNum nn f 0 840 (((zByte nn f 45 (0, false)).1), ((zByte nn f 45 (0, false)).2))).1))), (1, .int (iI 1)), (0, .ref tp)]) hx hb d_Tape_readOffset_38 rfl hl (by decide) rfl (fun ls hl => ?_)
      refine lv_iload_n hx hb d_Tape_readOffset_39 rfl (lv_at hl 1 rfl) ?_
      refine ri_if_eq (tgt := 48) hx hb d_Tape_readOffset_40 (by decide) (fun h40 => ?_) (fun h40 => ?_)
      · exfalso; omega
      · refine lv_iload_n hx hb d_Tape_readOffset_43 rfl (lv_at hl 0 rfl) ?_
        refine ri_ineg hx hb d_Tape_readOffset_44 ?_
        refine lv_goto (tgt := 49) hx hb d_Tape_readOffset_45 (by decide) ?_
        have hS2 : zS2 nn f = zNum nn f 0 840 (zByte nn f 45 (0, false)) := by unfold zS2; rw [if_pos h6]
        exact m_iret hx hb hr hlk hP hS d_Tape_readOffset_49 (by rw [hS2]) (by unfold zOff; rw [if_pos h6, hS2])
abbrev rm_Tape_readRule : Room := { frames := 3, cells := 0, slots := 0, locals := 67 }
set_option maxHeartbeats 4000000 in
set_option maxRecDepth 100000 in
theorem ct_Tape_readRule (l : Launch) (D : va_G) (tys : List (ClassId × FieldType)) (tp : Nat) (ba : Nat) (cB : ClassId) (nn : Nat) (f : Nat → Int32) (z : Nat × Bool) (ru : Nat) (mo : Int) (wk : Int) (wd : Int) (mi : Int) (hty : tys[0]? = some (cB, .byte)) (gn : nn ≤ 400) (gz : z.1 ≤ nn) : mMet l y_Tape_readRule c_Tape_readRule 2 none rm_Tape_readRule D tys [.ref tp, .ref ru] [(tp, .inr (1, [.ref ba, .int (iI ((nn : Int))), .int (iI ((z.1 : Int))), .int (iI (bI z.2))])), (ba, .inl (cB, 400, .inl f)), (ru, .inr (0, [.int (iI mo), .int (iI wk), .int (iI wd), .int (iI mi)]))] none [(tp, .inr (1, [.ref ba, .int (iI ((nn : Int))), .int (iI ((((zRu nn f z).2.1 : Nat) : Int))), .int (iI (bI ((zRu nn f z).2.2)))])), (ba, .inl (cB, 400, .inl f)), (ru, .inr (0, [.int (iI ((zRu nn f z).1.1)), .int (iI ((zRu nn f z).1.2.1)), .int (iI ((zRu nn f z).1.2.2.1)), .int (iI ((zRu nn f z).1.2.2.2))]))] := by
  refine mMet_of (by decide) (Nat.le_of_ble_eq_true rfl) ?_
  intro p e s m below meth c hx hb hr hown hlk hml hk hK hP hD hS ls hl
  have hl : lv_has ls 2 [(0, .ref tp), (1, .ref ru)] := hl
  refine lv_aload_n hx hb d_Tape_readRule_0 rfl (lv_at hl 0 rfl) ?_
  refine lv_bipush (v := iI 77) hx hb d_Tape_readRule_1 (by decide) ?_
  refine m_callV (rest := []) (q0 := 0) hx hb (hml.trans hl.1.symm) hown hk hK k_Tape_59 (ct_Tape_readByte l D tys tp ba cB nn z.1 z.2 f 77 hty (by omega) gz (by omega) (by omega)) hP hD hS [0, 1] rfl rfl rfl rfl rfl rfl rfl ⟨rfl, rfl⟩ ⟨by decide, by decide, by decide, by decide⟩ (Nat.le_of_ble_eq_true rfl) d_Tape_readRule_3 (fun H locs hP hD hS => ?_)
  have hP : va_P D vwCl [(tp, .inr (1, [.ref ba, .int (iI ((nn : Int))), .int (iI ((((zByte nn f 77 (z.1, z.2)).1 : Nat) : Int))), .int (iI (bI ((zByte nn f 77 (z.1, z.2)).2)))])), (ba, .inl (cB, 400, .inl f)), (ru, .inr (0, [.int (iI mo), .int (iI wk), .int (iI wd), .int (iI mi)]))] H := hP
  have hD : va_D (wA [(tp, .inr (1, [.ref ba, .int (iI ((nn : Int))), .int (iI ((z.1 : Int))), .int (iI (bI z.2))])), (ba, .inl (cB, 400, .inl f)), (ru, .inr (0, [.int (iI mo), .int (iI wk), .int (iI wd), .int (iI mi)]))]) [(tp, .inr (1, [.ref ba, .int (iI ((nn : Int))), .int (iI ((((zByte nn f 77 (z.1, z.2)).1 : Nat) : Int))), .int (iI (bI ((zByte nn f 77 (z.1, z.2)).2)))])), (ba, .inl (cB, 400, .inl f)), (ru, .inr (0, [.int (iI mo), .int (iI wk), .int (iI wd), .int (iI mi)]))] := hD
  have hP : va_P D vwCl [(tp, .inr (1, [.ref ba, .int (iI ((nn : Int))), .int (iI ((((zU1 nn f z).1 : Nat) : Int))), .int (iI (bI ((zU1 nn f z).2)))])), (ba, .inl (cB, 400, .inl f)), (ru, .inr (0, [.int (iI mo), .int (iI wk), .int (iI wd), .int (iI mi)]))] H := hP
  have hD : va_D (wA [(tp, .inr (1, [.ref ba, .int (iI ((nn : Int))), .int (iI ((z.1 : Int))), .int (iI (bI z.2))])), (ba, .inl (cB, 400, .inl f)), (ru, .inr (0, [.int (iI mo), .int (iI wk), .int (iI wd), .int (iI mi)]))]) [(tp, .inr (1, [.ref ba, .int (iI ((nn : Int))), .int (iI ((((zU1 nn f z).1 : Nat) : Int))), .int (iI (bI ((zU1 nn f z).2)))])), (ba, .inl (cB, 400, .inl f)), (ru, .inr (0, [.int (iI mo), .int (iI wk), .int (iI wd), .int (iI mi)]))] := hD
  have gu1 := zU1_b (f := f) gz
  refine lv_aload_n hx hb d_Tape_readRule_6 rfl (lv_at hl 1 rfl) ?_
  refine lv_aload_n hx hb d_Tape_readRule_7 rfl (lv_at hl 0 rfl) ?_
  refine lv_iconst (v := iI 1) hx hb d_Tape_readRule_8 rfl ?_
  refine lv_bipush (v := iI 12) hx hb d_Tape_readRule_9 (by decide) ?_
  refine m_callV (rest := [.ref ru]) (q0 := 0) hx hb (hml.trans hl.1.symm) hown hk hK k_Tape_41 (ct_Tape_readNumber l D tys tp ba cB nn ((zU1 nn f z).1) ((zU1 nn f z).2) f 1 12 hty (by omega) gu1 (by omega) (by omega) (by omega) (by omega)) hP hD hS [0, 1] rfl rfl rfl rfl rfl rfl rfl ⟨rfl, rfl⟩ ⟨by decide, by decide, by decide, by decide⟩ (Nat.le_of_ble_eq_true rfl) d_Tape_readRule_11 (fun H locs hP hD hS => ?_)
  have hP : va_P D vwCl [(tp, .inr (1, [.ref ba, .int (iI ((nn : Int))), .int (iI ((((zNum nn f 1 12 (((zU1 nn f z).1), ((zU1 nn f z).2))).2.1 : Nat) : Int))), .int (iI (bI ((zNum nn f 1 12 (((zU1 nn f z).1), ((zU1 nn f z).2))).2.2)))])), (ba, .inl (cB, 400, .inl f)), (ru, .inr (0, [.int (iI mo), .int (iI wk), .int (iI wd), .int (iI mi)]))] H := hP
  have hD : va_D (wA [(tp, .inr (1, [.ref ba, .int (iI ((nn : Int))), .int (iI ((z.1 : Int))), .int (iI (bI z.2))])), (ba, .inl (cB, 400, .inl f)), (ru, .inr (0, [.int (iI mo), .int (iI wk), .int (iI wd), .int (iI mi)]))]) [(tp, .inr (1, [.ref ba, .int (iI ((nn : Int))), .int (iI ((((zNum nn f 1 12 (((zU1 nn f z).1), ((zU1 nn f z).2))).2.1 : Nat) : Int))), .int (iI (bI ((zNum nn f 1 12 (((zU1 nn f z).1), ((zU1 nn f z).2))).2.2)))])), (ba, .inl (cB, 400, .inl f)), (ru, .inr (0, [.int (iI mo), .int (iI wk), .int (iI wd), .int (iI mi)]))] := hD
  have hP : va_P D vwCl [(tp, .inr (1, [.ref ba, .int (iI ((nn : Int))), .int (iI ((((zU2 nn f z).2.1 : Nat) : Int))), .int (iI (bI ((zU2 nn f z).2.2)))])), (ba, .inl (cB, 400, .inl f)), (ru, .inr (0, [.int (iI mo), .int (iI wk), .int (iI wd), .int (iI mi)]))] H := hP
  have hD : va_D (wA [(tp, .inr (1, [.ref ba, .int (iI ((nn : Int))), .int (iI ((z.1 : Int))), .int (iI (bI z.2))])), (ba, .inl (cB, 400, .inl f)), (ru, .inr (0, [.int (iI mo), .int (iI wk), .int (iI wd), .int (iI mi)]))]) [(tp, .inr (1, [.ref ba, .int (iI ((nn : Int))), .int (iI ((((zU2 nn f z).2.1 : Nat) : Int))), .int (iI (bI ((zU2 nn f z).2.2)))])), (ba, .inl (cB, 400, .inl f)), (ru, .inr (0, [.int (iI mo), .int (iI wk), .int (iI wd), .int (iI mi)]))] := hD
  have gu2 := zU2_b (f := f) gz
  refine g_putN hx hb hk hown hK hP hD hS 2 rfl f_Tape_63 fT_Rule rfl (rfl) rfl (Nat.le_of_ble_eq_true rfl) d_Tape_readRule_14 (fun H locs hP hD hS => ?_)
  have hP : va_P D vwCl [(tp, .inr (1, [.ref ba, .int (iI ((nn : Int))), .int (iI ((((zU2 nn f z).2.1 : Nat) : Int))), .int (iI (bI ((zU2 nn f z).2.2)))])), (ba, .inl (cB, 400, .inl f)), (ru, .inr (0, [.int (iI ((zU2 nn f z).1)), .int (iI wk), .int (iI wd), .int (iI mi)]))] H := hP
  have hD : va_D (wA [(tp, .inr (1, [.ref ba, .int (iI ((nn : Int))), .int (iI ((z.1 : Int))), .int (iI (bI z.2))])), (ba, .inl (cB, 400, .inl f)), (ru, .inr (0, [.int (iI mo), .int (iI wk), .int (iI wd), .int (iI mi)]))]) [(tp, .inr (1, [.ref ba, .int (iI ((nn : Int))), .int (iI ((((zU2 nn f z).2.1 : Nat) : Int))), .int (iI (bI ((zU2 nn f z).2.2)))])), (ba, .inl (cB, 400, .inl f)), (ru, .inr (0, [.int (iI ((zU2 nn f z).1)), .int (iI wk), .int (iI wd), .int (iI mi)]))] := hD
  refine lv_aload_n hx hb d_Tape_readRule_17 rfl (lv_at hl 0 rfl) ?_
  refine lv_bipush (v := iI 46) hx hb d_Tape_readRule_18 (by decide) ?_
  refine m_callV (rest := []) (q0 := 0) hx hb (hml.trans hl.1.symm) hown hk hK k_Tape_59 (ct_Tape_readByte l D tys tp ba cB nn ((zU2 nn f z).2.1) ((zU2 nn f z).2.2) f 46 hty (by omega) gu2 (by omega) (by omega)) hP hD hS [0, 1] rfl rfl rfl rfl rfl rfl rfl ⟨rfl, rfl⟩ ⟨by decide, by decide, by decide, by decide⟩ (Nat.le_of_ble_eq_true rfl) d_Tape_readRule_20 (fun H locs hP hD hS => ?_)
  have hP : va_P D vwCl [(tp, .inr (1, [.ref ba, .int (iI ((nn : Int))), .int (iI ((((zByte nn f 46 (((zU2 nn f z).2.1), ((zU2 nn f z).2.2))).1 : Nat) : Int))), .int (iI (bI ((zByte nn f 46 (((zU2 nn f z).2.1), ((zU2 nn f z).2.2))).2)))])), (ba, .inl (cB, 400, .inl f)), (ru, .inr (0, [.int (iI ((zU2 nn f z).1)), .int (iI wk), .int (iI wd), .int (iI mi)]))] H := hP
  have hD : va_D (wA [(tp, .inr (1, [.ref ba, .int (iI ((nn : Int))), .int (iI ((z.1 : Int))), .int (iI (bI z.2))])), (ba, .inl (cB, 400, .inl f)), (ru, .inr (0, [.int (iI mo), .int (iI wk), .int (iI wd), .int (iI mi)]))]) [(tp, .inr (1, [.ref ba, .int (iI ((nn : Int))), .int (iI ((((zByte nn f 46 (((zU2 nn f z).2.1), ((zU2 nn f z).2.2))).1 : Nat) : Int))), .int (iI (bI ((zByte nn f 46 (((zU2 nn f z).2.1), ((zU2 nn f z).2.2))).2)))])), (ba, .inl (cB, 400, .inl f)), (ru, .inr (0, [.int (iI ((zU2 nn f z).1)), .int (iI wk), .int (iI wd), .int (iI mi)]))] := hD
  have hP : va_P D vwCl [(tp, .inr (1, [.ref ba, .int (iI ((nn : Int))), .int (iI ((((zU3 nn f z).1 : Nat) : Int))), .int (iI (bI ((zU3 nn f z).2)))])), (ba, .inl (cB, 400, .inl f)), (ru, .inr (0, [.int (iI ((zU2 nn f z).1)), .int (iI wk), .int (iI wd), .int (iI mi)]))] H := hP
  have hD : va_D (wA [(tp, .inr (1, [.ref ba, .int (iI ((nn : Int))), .int (iI ((z.1 : Int))), .int (iI (bI z.2))])), (ba, .inl (cB, 400, .inl f)), (ru, .inr (0, [.int (iI mo), .int (iI wk), .int (iI wd), .int (iI mi)]))]) [(tp, .inr (1, [.ref ba, .int (iI ((nn : Int))), .int (iI ((((zU3 nn f z).1 : Nat) : Int))), .int (iI (bI ((zU3 nn f z).2)))])), (ba, .inl (cB, 400, .inl f)), (ru, .inr (0, [.int (iI ((zU2 nn f z).1)), .int (iI wk), .int (iI wd), .int (iI mi)]))] := hD
  have gu3 := zU3_b (f := f) gz
  refine lv_aload_n hx hb d_Tape_readRule_23 rfl (lv_at hl 1 rfl) ?_
  refine lv_aload_n hx hb d_Tape_readRule_24 rfl (lv_at hl 0 rfl) ?_
  refine lv_iconst (v := iI 1) hx hb d_Tape_readRule_25 rfl ?_
  refine lv_iconst (v := iI 5) hx hb d_Tape_readRule_26 rfl ?_
  refine m_callV (rest := [.ref ru]) (q0 := 0) hx hb (hml.trans hl.1.symm) hown hk hK k_Tape_41 (ct_Tape_readNumber l D tys tp ba cB nn ((zU3 nn f z).1) ((zU3 nn f z).2) f 1 5 hty (by omega) gu3 (by omega) (by omega) (by omega) (by omega)) hP hD hS [0, 1] rfl rfl rfl rfl rfl rfl rfl ⟨rfl, rfl⟩ ⟨by decide, by decide, by decide, by decide⟩ (Nat.le_of_ble_eq_true rfl) d_Tape_readRule_27 (fun H locs hP hD hS => ?_)
  have hP : va_P D vwCl [(tp, .inr (1, [.ref ba, .int (iI ((nn : Int))), .int (iI ((((zNum nn f 1 5 (((zU3 nn f z).1), ((zU3 nn f z).2))).2.1 : Nat) : Int))), .int (iI (bI ((zNum nn f 1 5 (((zU3 nn f z).1), ((zU3 nn f z).2))).2.2)))])), (ba, .inl (cB, 400, .inl f)), (ru, .inr (0, [.int (iI ((zU2 nn f z).1)), .int (iI wk), .int (iI wd), .int (iI mi)]))] H := hP
  have hD : va_D (wA [(tp, .inr (1, [.ref ba, .int (iI ((nn : Int))), .int (iI ((z.1 : Int))), .int (iI (bI z.2))])), (ba, .inl (cB, 400, .inl f)), (ru, .inr (0, [.int (iI mo), .int (iI wk), .int (iI wd), .int (iI mi)]))]) [(tp, .inr (1, [.ref ba, .int (iI ((nn : Int))), .int (iI ((((zNum nn f 1 5 (((zU3 nn f z).1), ((zU3 nn f z).2))).2.1 : Nat) : Int))), .int (iI (bI ((zNum nn f 1 5 (((zU3 nn f z).1), ((zU3 nn f z).2))).2.2)))])), (ba, .inl (cB, 400, .inl f)), (ru, .inr (0, [.int (iI ((zU2 nn f z).1)), .int (iI wk), .int (iI wd), .int (iI mi)]))] := hD
  have hP : va_P D vwCl [(tp, .inr (1, [.ref ba, .int (iI ((nn : Int))), .int (iI ((((zU4 nn f z).2.1 : Nat) : Int))), .int (iI (bI ((zU4 nn f z).2.2)))])), (ba, .inl (cB, 400, .inl f)), (ru, .inr (0, [.int (iI ((zU2 nn f z).1)), .int (iI wk), .int (iI wd), .int (iI mi)]))] H := hP
  have hD : va_D (wA [(tp, .inr (1, [.ref ba, .int (iI ((nn : Int))), .int (iI ((z.1 : Int))), .int (iI (bI z.2))])), (ba, .inl (cB, 400, .inl f)), (ru, .inr (0, [.int (iI mo), .int (iI wk), .int (iI wd), .int (iI mi)]))]) [(tp, .inr (1, [.ref ba, .int (iI ((nn : Int))), .int (iI ((((zU4 nn f z).2.1 : Nat) : Int))), .int (iI (bI ((zU4 nn f z).2.2)))])), (ba, .inl (cB, 400, .inl f)), (ru, .inr (0, [.int (iI ((zU2 nn f z).1)), .int (iI wk), .int (iI wd), .int (iI mi)]))] := hD
  have gu4 := zU4_b (f := f) gz
  refine g_putN hx hb hk hown hK hP hD hS 2 rfl f_Tape_68 fT_Rule rfl (rfl) rfl (Nat.le_of_ble_eq_true rfl) d_Tape_readRule_30 (fun H locs hP hD hS => ?_)
  have hP : va_P D vwCl [(tp, .inr (1, [.ref ba, .int (iI ((nn : Int))), .int (iI ((((zU4 nn f z).2.1 : Nat) : Int))), .int (iI (bI ((zU4 nn f z).2.2)))])), (ba, .inl (cB, 400, .inl f)), (ru, .inr (0, [.int (iI ((zU2 nn f z).1)), .int (iI ((zU4 nn f z).1)), .int (iI wd), .int (iI mi)]))] H := hP
  have hD : va_D (wA [(tp, .inr (1, [.ref ba, .int (iI ((nn : Int))), .int (iI ((z.1 : Int))), .int (iI (bI z.2))])), (ba, .inl (cB, 400, .inl f)), (ru, .inr (0, [.int (iI mo), .int (iI wk), .int (iI wd), .int (iI mi)]))]) [(tp, .inr (1, [.ref ba, .int (iI ((nn : Int))), .int (iI ((((zU4 nn f z).2.1 : Nat) : Int))), .int (iI (bI ((zU4 nn f z).2.2)))])), (ba, .inl (cB, 400, .inl f)), (ru, .inr (0, [.int (iI ((zU2 nn f z).1)), .int (iI ((zU4 nn f z).1)), .int (iI wd), .int (iI mi)]))] := hD
  refine lv_aload_n hx hb d_Tape_readRule_33 rfl (lv_at hl 0 rfl) ?_
  refine lv_bipush (v := iI 46) hx hb d_Tape_readRule_34 (by decide) ?_
  refine m_callV (rest := []) (q0 := 0) hx hb (hml.trans hl.1.symm) hown hk hK k_Tape_59 (ct_Tape_readByte l D tys tp ba cB nn ((zU4 nn f z).2.1) ((zU4 nn f z).2.2) f 46 hty (by omega) gu4 (by omega) (by omega)) hP hD hS [0, 1] rfl rfl rfl rfl rfl rfl rfl ⟨rfl, rfl⟩ ⟨by decide, by decide, by decide, by decide⟩ (Nat.le_of_ble_eq_true rfl) d_Tape_readRule_36 (fun H locs hP hD hS => ?_)
  have hP : va_P D vwCl [(tp, .inr (1, [.ref ba, .int (iI ((nn : Int))), .int (iI ((((zByte nn f 46 (((zU4 nn f z).2.1), ((zU4 nn f z).2.2))).1 : Nat) : Int))), .int (iI (bI ((zByte nn f 46 (((zU4 nn f z).2.1), ((zU4 nn f z).2.2))).2)))])), (ba, .inl (cB, 400, .inl f)), (ru, .inr (0, [.int (iI ((zU2 nn f z).1)), .int (iI ((zU4 nn f z).1)), .int (iI wd), .int (iI mi)]))] H := hP
  have hD : va_D (wA [(tp, .inr (1, [.ref ba, .int (iI ((nn : Int))), .int (iI ((z.1 : Int))), .int (iI (bI z.2))])), (ba, .inl (cB, 400, .inl f)), (ru, .inr (0, [.int (iI mo), .int (iI wk), .int (iI wd), .int (iI mi)]))]) [(tp, .inr (1, [.ref ba, .int (iI ((nn : Int))), .int (iI ((((zByte nn f 46 (((zU4 nn f z).2.1), ((zU4 nn f z).2.2))).1 : Nat) : Int))), .int (iI (bI ((zByte nn f 46 (((zU4 nn f z).2.1), ((zU4 nn f z).2.2))).2)))])), (ba, .inl (cB, 400, .inl f)), (ru, .inr (0, [.int (iI ((zU2 nn f z).1)), .int (iI ((zU4 nn f z).1)), .int (iI wd), .int (iI mi)]))] := hD
  have hP : va_P D vwCl [(tp, .inr (1, [.ref ba, .int (iI ((nn : Int))), .int (iI ((((zU5 nn f z).1 : Nat) : Int))), .int (iI (bI ((zU5 nn f z).2)))])), (ba, .inl (cB, 400, .inl f)), (ru, .inr (0, [.int (iI ((zU2 nn f z).1)), .int (iI ((zU4 nn f z).1)), .int (iI wd), .int (iI mi)]))] H := hP
  have hD : va_D (wA [(tp, .inr (1, [.ref ba, .int (iI ((nn : Int))), .int (iI ((z.1 : Int))), .int (iI (bI z.2))])), (ba, .inl (cB, 400, .inl f)), (ru, .inr (0, [.int (iI mo), .int (iI wk), .int (iI wd), .int (iI mi)]))]) [(tp, .inr (1, [.ref ba, .int (iI ((nn : Int))), .int (iI ((((zU5 nn f z).1 : Nat) : Int))), .int (iI (bI ((zU5 nn f z).2)))])), (ba, .inl (cB, 400, .inl f)), (ru, .inr (0, [.int (iI ((zU2 nn f z).1)), .int (iI ((zU4 nn f z).1)), .int (iI wd), .int (iI mi)]))] := hD
  have gu5 := zU5_b (f := f) gz
  refine lv_aload_n hx hb d_Tape_readRule_39 rfl (lv_at hl 1 rfl) ?_
  refine lv_aload_n hx hb d_Tape_readRule_40 rfl (lv_at hl 0 rfl) ?_
  refine lv_iconst (v := iI 0) hx hb d_Tape_readRule_41 rfl ?_
  refine lv_bipush (v := iI 6) hx hb d_Tape_readRule_42 (by decide) ?_
  refine m_callV (rest := [.ref ru]) (q0 := 0) hx hb (hml.trans hl.1.symm) hown hk hK k_Tape_41 (ct_Tape_readNumber l D tys tp ba cB nn ((zU5 nn f z).1) ((zU5 nn f z).2) f 0 6 hty (by omega) gu5 (by omega) (by omega) (by omega) (by omega)) hP hD hS [0, 1] rfl rfl rfl rfl rfl rfl rfl ⟨rfl, rfl⟩ ⟨by decide, by decide, by decide, by decide⟩ (Nat.le_of_ble_eq_true rfl) d_Tape_readRule_44 (fun H locs hP hD hS => ?_)
  have hP : va_P D vwCl [(tp, .inr (1, [.ref ba, .int (iI ((nn : Int))), .int (iI ((((zNum nn f 0 6 (((zU5 nn f z).1), ((zU5 nn f z).2))).2.1 : Nat) : Int))), .int (iI (bI ((zNum nn f 0 6 (((zU5 nn f z).1), ((zU5 nn f z).2))).2.2)))])), (ba, .inl (cB, 400, .inl f)), (ru, .inr (0, [.int (iI ((zU2 nn f z).1)), .int (iI ((zU4 nn f z).1)), .int (iI wd), .int (iI mi)]))] H := hP
  have hD : va_D (wA [(tp, .inr (1, [.ref ba, .int (iI ((nn : Int))), .int (iI ((z.1 : Int))), .int (iI (bI z.2))])), (ba, .inl (cB, 400, .inl f)), (ru, .inr (0, [.int (iI mo), .int (iI wk), .int (iI wd), .int (iI mi)]))]) [(tp, .inr (1, [.ref ba, .int (iI ((nn : Int))), .int (iI ((((zNum nn f 0 6 (((zU5 nn f z).1), ((zU5 nn f z).2))).2.1 : Nat) : Int))), .int (iI (bI ((zNum nn f 0 6 (((zU5 nn f z).1), ((zU5 nn f z).2))).2.2)))])), (ba, .inl (cB, 400, .inl f)), (ru, .inr (0, [.int (iI ((zU2 nn f z).1)), .int (iI ((zU4 nn f z).1)), .int (iI wd), .int (iI mi)]))] := hD
  have hP : va_P D vwCl [(tp, .inr (1, [.ref ba, .int (iI ((nn : Int))), .int (iI ((((zU6 nn f z).2.1 : Nat) : Int))), .int (iI (bI ((zU6 nn f z).2.2)))])), (ba, .inl (cB, 400, .inl f)), (ru, .inr (0, [.int (iI ((zU2 nn f z).1)), .int (iI ((zU4 nn f z).1)), .int (iI wd), .int (iI mi)]))] H := hP
  have hD : va_D (wA [(tp, .inr (1, [.ref ba, .int (iI ((nn : Int))), .int (iI ((z.1 : Int))), .int (iI (bI z.2))])), (ba, .inl (cB, 400, .inl f)), (ru, .inr (0, [.int (iI mo), .int (iI wk), .int (iI wd), .int (iI mi)]))]) [(tp, .inr (1, [.ref ba, .int (iI ((nn : Int))), .int (iI ((((zU6 nn f z).2.1 : Nat) : Int))), .int (iI (bI ((zU6 nn f z).2.2)))])), (ba, .inl (cB, 400, .inl f)), (ru, .inr (0, [.int (iI ((zU2 nn f z).1)), .int (iI ((zU4 nn f z).1)), .int (iI wd), .int (iI mi)]))] := hD
  have gu6 := zU6_b (f := f) gz
  refine g_putN hx hb hk hown hK hP hD hS 2 rfl f_Tape_71 fT_Rule rfl (rfl) rfl (Nat.le_of_ble_eq_true rfl) d_Tape_readRule_47 (fun H locs hP hD hS => ?_)
  have hP : va_P D vwCl [(tp, .inr (1, [.ref ba, .int (iI ((nn : Int))), .int (iI ((((zU6 nn f z).2.1 : Nat) : Int))), .int (iI (bI ((zU6 nn f z).2.2)))])), (ba, .inl (cB, 400, .inl f)), (ru, .inr (0, [.int (iI ((zU2 nn f z).1)), .int (iI ((zU4 nn f z).1)), .int (iI ((zU6 nn f z).1)), .int (iI mi)]))] H := hP
  have hD : va_D (wA [(tp, .inr (1, [.ref ba, .int (iI ((nn : Int))), .int (iI ((z.1 : Int))), .int (iI (bI z.2))])), (ba, .inl (cB, 400, .inl f)), (ru, .inr (0, [.int (iI mo), .int (iI wk), .int (iI wd), .int (iI mi)]))]) [(tp, .inr (1, [.ref ba, .int (iI ((nn : Int))), .int (iI ((((zU6 nn f z).2.1 : Nat) : Int))), .int (iI (bI ((zU6 nn f z).2.2)))])), (ba, .inl (cB, 400, .inl f)), (ru, .inr (0, [.int (iI ((zU2 nn f z).1)), .int (iI ((zU4 nn f z).1)), .int (iI ((zU6 nn f z).1)), .int (iI mi)]))] := hD
  refine lv_aload_n hx hb d_Tape_readRule_50 rfl (lv_at hl 0 rfl) ?_
  refine lv_bipush (v := iI 47) hx hb d_Tape_readRule_51 (by decide) ?_
  refine m_callV (rest := []) (q0 := 0) hx hb (hml.trans hl.1.symm) hown hk hK k_Tape_59 (ct_Tape_readByte l D tys tp ba cB nn ((zU6 nn f z).2.1) ((zU6 nn f z).2.2) f 47 hty (by omega) gu6 (by omega) (by omega)) hP hD hS [0, 1] rfl rfl rfl rfl rfl rfl rfl ⟨rfl, rfl⟩ ⟨by decide, by decide, by decide, by decide⟩ (Nat.le_of_ble_eq_true rfl) d_Tape_readRule_53 (fun H locs hP hD hS => ?_)
  have hP : va_P D vwCl [(tp, .inr (1, [.ref ba, .int (iI ((nn : Int))), .int (iI ((((zByte nn f 47 (((zU6 nn f z).2.1), ((zU6 nn f z).2.2))).1 : Nat) : Int))), .int (iI (bI ((zByte nn f 47 (((zU6 nn f z).2.1), ((zU6 nn f z).2.2))).2)))])), (ba, .inl (cB, 400, .inl f)), (ru, .inr (0, [.int (iI ((zU2 nn f z).1)), .int (iI ((zU4 nn f z).1)), .int (iI ((zU6 nn f z).1)), .int (iI mi)]))] H := hP
  have hD : va_D (wA [(tp, .inr (1, [.ref ba, .int (iI ((nn : Int))), .int (iI ((z.1 : Int))), .int (iI (bI z.2))])), (ba, .inl (cB, 400, .inl f)), (ru, .inr (0, [.int (iI mo), .int (iI wk), .int (iI wd), .int (iI mi)]))]) [(tp, .inr (1, [.ref ba, .int (iI ((nn : Int))), .int (iI ((((zByte nn f 47 (((zU6 nn f z).2.1), ((zU6 nn f z).2.2))).1 : Nat) : Int))), .int (iI (bI ((zByte nn f 47 (((zU6 nn f z).2.1), ((zU6 nn f z).2.2))).2)))])), (ba, .inl (cB, 400, .inl f)), (ru, .inr (0, [.int (iI ((zU2 nn f z).1)), .int (iI ((zU4 nn f z).1)), .int (iI ((zU6 nn f z).1)), .int (iI mi)]))] := hD
  have hP : va_P D vwCl [(tp, .inr (1, [.ref ba, .int (iI ((nn : Int))), .int (iI ((((zU7 nn f z).1 : Nat) : Int))), .int (iI (bI ((zU7 nn f z).2)))])), (ba, .inl (cB, 400, .inl f)), (ru, .inr (0, [.int (iI ((zU2 nn f z).1)), .int (iI ((zU4 nn f z).1)), .int (iI ((zU6 nn f z).1)), .int (iI mi)]))] H := hP
  have hD : va_D (wA [(tp, .inr (1, [.ref ba, .int (iI ((nn : Int))), .int (iI ((z.1 : Int))), .int (iI (bI z.2))])), (ba, .inl (cB, 400, .inl f)), (ru, .inr (0, [.int (iI mo), .int (iI wk), .int (iI wd), .int (iI mi)]))]) [(tp, .inr (1, [.ref ba, .int (iI ((nn : Int))), .int (iI ((((zU7 nn f z).1 : Nat) : Int))), .int (iI (bI ((zU7 nn f z).2)))])), (ba, .inl (cB, 400, .inl f)), (ru, .inr (0, [.int (iI ((zU2 nn f z).1)), .int (iI ((zU4 nn f z).1)), .int (iI ((zU6 nn f z).1)), .int (iI mi)]))] := hD
  have gu7 := zU7_b (f := f) gz
  refine lv_aload_n hx hb d_Tape_readRule_56 rfl (lv_at hl 1 rfl) ?_
  refine lv_aload_n hx hb d_Tape_readRule_57 rfl (lv_at hl 0 rfl) ?_
  refine lv_iconst (v := iI 0) hx hb d_Tape_readRule_58 rfl ?_
  refine lv_sipush (v := iI 1439) hx hb d_Tape_readRule_59 (by decide) ?_
  refine m_callV (rest := [.ref ru]) (q0 := 0) hx hb (hml.trans hl.1.symm) hown hk hK k_Tape_41 (ct_Tape_readNumber l D tys tp ba cB nn ((zU7 nn f z).1) ((zU7 nn f z).2) f 0 1439 hty (by omega) gu7 (by omega) (by omega) (by omega) (by omega)) hP hD hS [0, 1] rfl rfl rfl rfl rfl rfl rfl ⟨rfl, rfl⟩ ⟨by decide, by decide, by decide, by decide⟩ (Nat.le_of_ble_eq_true rfl) d_Tape_readRule_62 (fun H locs hP hD hS => ?_)
  have hP : va_P D vwCl [(tp, .inr (1, [.ref ba, .int (iI ((nn : Int))), .int (iI ((((zNum nn f 0 1439 (((zU7 nn f z).1), ((zU7 nn f z).2))).2.1 : Nat) : Int))), .int (iI (bI ((zNum nn f 0 1439 (((zU7 nn f z).1), ((zU7 nn f z).2))).2.2)))])), (ba, .inl (cB, 400, .inl f)), (ru, .inr (0, [.int (iI ((zU2 nn f z).1)), .int (iI ((zU4 nn f z).1)), .int (iI ((zU6 nn f z).1)), .int (iI mi)]))] H := hP
  have hD : va_D (wA [(tp, .inr (1, [.ref ba, .int (iI ((nn : Int))), .int (iI ((z.1 : Int))), .int (iI (bI z.2))])), (ba, .inl (cB, 400, .inl f)), (ru, .inr (0, [.int (iI mo), .int (iI wk), .int (iI wd), .int (iI mi)]))]) [(tp, .inr (1, [.ref ba, .int (iI ((nn : Int))), .int (iI ((((zNum nn f 0 1439 (((zU7 nn f z).1), ((zU7 nn f z).2))).2.1 : Nat) : Int))), .int (iI (bI ((zNum nn f 0 1439 (((zU7 nn f z).1), ((zU7 nn f z).2))).2.2)))])), (ba, .inl (cB, 400, .inl f)), (ru, .inr (0, [.int (iI ((zU2 nn f z).1)), .int (iI ((zU4 nn f z).1)), .int (iI ((zU6 nn f z).1)), .int (iI mi)]))] := hD
  have hP : va_P D vwCl [(tp, .inr (1, [.ref ba, .int (iI ((nn : Int))), .int (iI ((((zU8 nn f z).2.1 : Nat) : Int))), .int (iI (bI ((zU8 nn f z).2.2)))])), (ba, .inl (cB, 400, .inl f)), (ru, .inr (0, [.int (iI ((zU2 nn f z).1)), .int (iI ((zU4 nn f z).1)), .int (iI ((zU6 nn f z).1)), .int (iI mi)]))] H := hP
  have hD : va_D (wA [(tp, .inr (1, [.ref ba, .int (iI ((nn : Int))), .int (iI ((z.1 : Int))), .int (iI (bI z.2))])), (ba, .inl (cB, 400, .inl f)), (ru, .inr (0, [.int (iI mo), .int (iI wk), .int (iI wd), .int (iI mi)]))]) [(tp, .inr (1, [.ref ba, .int (iI ((nn : Int))), .int (iI ((((zU8 nn f z).2.1 : Nat) : Int))), .int (iI (bI ((zU8 nn f z).2.2)))])), (ba, .inl (cB, 400, .inl f)), (ru, .inr (0, [.int (iI ((zU2 nn f z).1)), .int (iI ((zU4 nn f z).1)), .int (iI ((zU6 nn f z).1)), .int (iI mi)]))] := hD
  have gu8 := zU8_b (f := f) gz
  refine g_putN hx hb hk hown hK hP hD hS 2 rfl f_Tape_74 fT_Rule rfl (rfl) rfl (Nat.le_of_ble_eq_true rfl) d_Tape_readRule_65 (fun H locs hP hD hS => ?_)
  have hP : va_P D vwCl [(tp, .inr (1, [.ref ba, .int (iI ((nn : Int))), .int (iI ((((zU8 nn f z).2.1 : Nat) : Int))), .int (iI (bI ((zU8 nn f z).2.2)))])), (ba, .inl (cB, 400, .inl f)), (ru, .inr (0, [.int (iI ((zU2 nn f z).1)), .int (iI ((zU4 nn f z).1)), .int (iI ((zU6 nn f z).1)), .int (iI ((zU8 nn f z).1))]))] H := hP
  have hD : va_D (wA [(tp, .inr (1, [.ref ba, .int (iI ((nn : Int))), .int (iI ((z.1 : Int))), .int (iI (bI z.2))])), (ba, .inl (cB, 400, .inl f)), (ru, .inr (0, [.int (iI mo), .int (iI wk), .int (iI wd), .int (iI mi)]))]) [(tp, .inr (1, [.ref ba, .int (iI ((nn : Int))), .int (iI ((((zU8 nn f z).2.1 : Nat) : Int))), .int (iI (bI ((zU8 nn f z).2.2)))])), (ba, .inl (cB, 400, .inl f)), (ru, .inr (0, [.int (iI ((zU2 nn f z).1)), .int (iI ((zU4 nn f z).1)), .int (iI ((zU6 nn f z).1)), .int (iI ((zU8 nn f z).1))]))] := hD
  exact m_vret hx hb hr hlk hP hS d_Tape_readRule_68 (by rfl)
abbrev rm_Tape_readZone : Room := { frames := 4, cells := 0, slots := 0, locals := 89 }
set_option maxHeartbeats 4000000 in
set_option maxRecDepth 100000 in
theorem ct_Tape_readZone (l : Launch) (D : va_G) (tys : List (ClassId × FieldType)) (tp : Nat) (ba : Nat) (cB : ClassId) (nn : Nat) (i : Nat) (bk : Bool) (f : Nat → Int32) (zo : Nat) (zb : Nat) (ze : Nat) (off : Int) (sv : Int) (b1 : Int) (b2 : Int) (b3 : Int) (b4 : Int) (e1 : Int) (e2 : Int) (e3 : Int) (e4 : Int) (hty : tys[0]? = some (cB, .byte)) (gn : nn ≤ 400) : mMet l y_Tape_readZone c_Tape_readZone 2 (some .int) rm_Tape_readZone D tys [.ref tp, .ref zo] [(tp, .inr (1, [.ref ba, .int (iI ((nn : Int))), .int (iI ((i : Int))), .int (iI (bI bk))])), (ba, .inl (cB, 400, .inl f)), (zo, .inr (2, [.int (iI off), .int (iI sv), .ref zb, .ref ze])), (zb, .inr (0, [.int (iI b1), .int (iI b2), .int (iI b3), .int (iI b4)])), (ze, .inr (0, [.int (iI e1), .int (iI e2), .int (iI e3), .int (iI e4)]))] (some (.int (iI (zPlace nn f)))) [(tp, .inr (1, [.ref ba, .int (iI ((nn : Int))), .int (iI ((((zEnd nn f).1 : Nat) : Int))), .int (iI (bI (zBad nn f)))])), (ba, .inl (cB, 400, .inl f)), (zo, .inr (2, [.int (iI (zOff nn f)), .int (iI (zSave nn f)), .ref zb, .ref ze])), (zb, .inr (0, [.int (iI ((rsel (zMore nn f) (zR1 nn f).1 (b1, b2, b3, b4)).1)), .int (iI ((rsel (zMore nn f) (zR1 nn f).1 (b1, b2, b3, b4)).2.1)), .int (iI ((rsel (zMore nn f) (zR1 nn f).1 (b1, b2, b3, b4)).2.2.1)), .int (iI ((rsel (zMore nn f) (zR1 nn f).1 (b1, b2, b3, b4)).2.2.2))])), (ze, .inr (0, [.int (iI ((rsel (zMore nn f) (zR2 nn f).1 (e1, e2, e3, e4)).1)), .int (iI ((rsel (zMore nn f) (zR2 nn f).1 (e1, e2, e3, e4)).2.1)), .int (iI ((rsel (zMore nn f) (zR2 nn f).1 (e1, e2, e3, e4)).2.2.1)), .int (iI ((rsel (zMore nn f) (zR2 nn f).1 (e1, e2, e3, e4)).2.2.2))]))] := by
  refine mMet_of (by decide) (Nat.le_of_ble_eq_true rfl) ?_
  intro p e s m below meth c hx hb hr hown hlk hml hk hK hP hD hS ls hl
  have hl : lv_has ls 2 [(0, .ref tp), (1, .ref zo)] := hl
  have gS := zS2_b nn f
  have gR := zR2_b nn f
  refine lv_aload_n hx hb d_Tape_readZone_0 rfl (lv_at hl 0 rfl) ?_
  refine lv_iconst (v := iI 0) hx hb d_Tape_readZone_1 rfl ?_
  refine g_put hx hb hk hown hK hP hD hS 0 rfl f_Tape_19 fT_Tape rfl (rfl) rfl (Nat.le_of_ble_eq_true rfl) d_Tape_readZone_2 (fun H locs hP hD hS => ?_)
  have hP : va_P D vwCl [(tp, .inr (1, [.ref ba, .int (iI ((nn : Int))), .int (iI 0), .int (iI (bI bk))])), (ba, .inl (cB, 400, .inl f)), (zo, .inr (2, [.int (iI off), .int (iI sv), .ref zb, .ref ze])), (zb, .inr (0, [.int (iI b1), .int (iI b2), .int (iI b3), .int (iI b4)])), (ze, .inr (0, [.int (iI e1), .int (iI e2), .int (iI e3), .int (iI e4)]))] H := hP
  have hD : va_D (wA [(tp, .inr (1, [.ref ba, .int (iI ((nn : Int))), .int (iI ((i : Int))), .int (iI (bI bk))])), (ba, .inl (cB, 400, .inl f)), (zo, .inr (2, [.int (iI off), .int (iI sv), .ref zb, .ref ze])), (zb, .inr (0, [.int (iI b1), .int (iI b2), .int (iI b3), .int (iI b4)])), (ze, .inr (0, [.int (iI e1), .int (iI e2), .int (iI e3), .int (iI e4)]))]) [(tp, .inr (1, [.ref ba, .int (iI ((nn : Int))), .int (iI 0), .int (iI (bI bk))])), (ba, .inl (cB, 400, .inl f)), (zo, .inr (2, [.int (iI off), .int (iI sv), .ref zb, .ref ze])), (zb, .inr (0, [.int (iI b1), .int (iI b2), .int (iI b3), .int (iI b4)])), (ze, .inr (0, [.int (iI e1), .int (iI e2), .int (iI e3), .int (iI e4)]))] := hD
  refine lv_aload_n hx hb d_Tape_readZone_5 rfl (lv_at hl 0 rfl) ?_
  refine lv_iconst (v := iI 0) hx hb d_Tape_readZone_6 rfl ?_
  refine g_put hx hb hk hown hK hP hD hS 0 rfl f_Tape_22 fT_Tape rfl (zb_nar (by decide)) rfl (Nat.le_of_ble_eq_true rfl) d_Tape_readZone_7 (fun H locs hP hD hS => ?_)
  have hP : va_P D vwCl [(tp, .inr (1, [.ref ba, .int (iI ((nn : Int))), .int (iI 0), .int (iI 0)])), (ba, .inl (cB, 400, .inl f)), (zo, .inr (2, [.int (iI off), .int (iI sv), .ref zb, .ref ze])), (zb, .inr (0, [.int (iI b1), .int (iI b2), .int (iI b3), .int (iI b4)])), (ze, .inr (0, [.int (iI e1), .int (iI e2), .int (iI e3), .int (iI e4)]))] H := hP
  have hD : va_D (wA [(tp, .inr (1, [.ref ba, .int (iI ((nn : Int))), .int (iI ((i : Int))), .int (iI (bI bk))])), (ba, .inl (cB, 400, .inl f)), (zo, .inr (2, [.int (iI off), .int (iI sv), .ref zb, .ref ze])), (zb, .inr (0, [.int (iI b1), .int (iI b2), .int (iI b3), .int (iI b4)])), (ze, .inr (0, [.int (iI e1), .int (iI e2), .int (iI e3), .int (iI e4)]))]) [(tp, .inr (1, [.ref ba, .int (iI ((nn : Int))), .int (iI 0), .int (iI 0)])), (ba, .inl (cB, 400, .inl f)), (zo, .inr (2, [.int (iI off), .int (iI sv), .ref zb, .ref ze])), (zb, .inr (0, [.int (iI b1), .int (iI b2), .int (iI b3), .int (iI b4)])), (ze, .inr (0, [.int (iI e1), .int (iI e2), .int (iI e3), .int (iI e4)]))] := hD
  refine lv_aload_n hx hb d_Tape_readZone_10 rfl (lv_at hl 1 rfl) ?_
  refine lv_aload_n hx hb d_Tape_readZone_11 rfl (lv_at hl 0 rfl) ?_
  refine m_callV (rest := [.ref zo]) (q0 := 0) hx hb (hml.trans hl.1.symm) hown hk hK k_Tape_26 (ct_Tape_readOffset l D tys tp ba cB nn f hty (by omega)) hP hD hS [0, 1] rfl rfl rfl rfl rfl rfl rfl ⟨rfl, rfl⟩ ⟨by decide, by decide, by decide, by decide⟩ (Nat.le_of_ble_eq_true rfl) d_Tape_readZone_12 (fun H locs hP hD hS => ?_)
  have hP : va_P D vwCl [(tp, .inr (1, [.ref ba, .int (iI ((nn : Int))), .int (iI ((((zS2 nn f).2.1 : Nat) : Int))), .int (iI (bI ((zS2 nn f).2.2)))])), (ba, .inl (cB, 400, .inl f)), (zo, .inr (2, [.int (iI off), .int (iI sv), .ref zb, .ref ze])), (zb, .inr (0, [.int (iI b1), .int (iI b2), .int (iI b3), .int (iI b4)])), (ze, .inr (0, [.int (iI e1), .int (iI e2), .int (iI e3), .int (iI e4)]))] H := hP
  have hD : va_D (wA [(tp, .inr (1, [.ref ba, .int (iI ((nn : Int))), .int (iI ((i : Int))), .int (iI (bI bk))])), (ba, .inl (cB, 400, .inl f)), (zo, .inr (2, [.int (iI off), .int (iI sv), .ref zb, .ref ze])), (zb, .inr (0, [.int (iI b1), .int (iI b2), .int (iI b3), .int (iI b4)])), (ze, .inr (0, [.int (iI e1), .int (iI e2), .int (iI e3), .int (iI e4)]))]) [(tp, .inr (1, [.ref ba, .int (iI ((nn : Int))), .int (iI ((((zS2 nn f).2.1 : Nat) : Int))), .int (iI (bI ((zS2 nn f).2.2)))])), (ba, .inl (cB, 400, .inl f)), (zo, .inr (2, [.int (iI off), .int (iI sv), .ref zb, .ref ze])), (zb, .inr (0, [.int (iI b1), .int (iI b2), .int (iI b3), .int (iI b4)])), (ze, .inr (0, [.int (iI e1), .int (iI e2), .int (iI e3), .int (iI e4)]))] := hD
  refine g_putN hx hb hk hown hK hP hD hS 2 rfl f_Tape_30 fT_Zone rfl (rfl) rfl (Nat.le_of_ble_eq_true rfl) d_Tape_readZone_15 (fun H locs hP hD hS => ?_)
  have hP : va_P D vwCl [(tp, .inr (1, [.ref ba, .int (iI ((nn : Int))), .int (iI ((((zS2 nn f).2.1 : Nat) : Int))), .int (iI (bI ((zS2 nn f).2.2)))])), (ba, .inl (cB, 400, .inl f)), (zo, .inr (2, [.int (iI (zOff nn f)), .int (iI sv), .ref zb, .ref ze])), (zb, .inr (0, [.int (iI b1), .int (iI b2), .int (iI b3), .int (iI b4)])), (ze, .inr (0, [.int (iI e1), .int (iI e2), .int (iI e3), .int (iI e4)]))] H := hP
  have hD : va_D (wA [(tp, .inr (1, [.ref ba, .int (iI ((nn : Int))), .int (iI ((i : Int))), .int (iI (bI bk))])), (ba, .inl (cB, 400, .inl f)), (zo, .inr (2, [.int (iI off), .int (iI sv), .ref zb, .ref ze])), (zb, .inr (0, [.int (iI b1), .int (iI b2), .int (iI b3), .int (iI b4)])), (ze, .inr (0, [.int (iI e1), .int (iI e2), .int (iI e3), .int (iI e4)]))]) [(tp, .inr (1, [.ref ba, .int (iI ((nn : Int))), .int (iI ((((zS2 nn f).2.1 : Nat) : Int))), .int (iI (bI ((zS2 nn f).2.2)))])), (ba, .inl (cB, 400, .inl f)), (zo, .inr (2, [.int (iI (zOff nn f)), .int (iI sv), .ref zb, .ref ze])), (zb, .inr (0, [.int (iI b1), .int (iI b2), .int (iI b3), .int (iI b4)])), (ze, .inr (0, [.int (iI e1), .int (iI e2), .int (iI e3), .int (iI e4)]))] := hD
  refine lv_aload_n hx hb d_Tape_readZone_18 rfl (lv_at hl 1 rfl) ?_
  refine lv_iconst (v := iI 0) hx hb d_Tape_readZone_19 rfl ?_
  refine g_putN hx hb hk hown hK hP hD hS 2 rfl f_Tape_35 fT_Zone rfl (rfl) rfl (Nat.le_of_ble_eq_true rfl) d_Tape_readZone_20 (fun H locs hP hD hS => ?_)
  have hP : va_P D vwCl [(tp, .inr (1, [.ref ba, .int (iI ((nn : Int))), .int (iI ((((zS2 nn f).2.1 : Nat) : Int))), .int (iI (bI ((zS2 nn f).2.2)))])), (ba, .inl (cB, 400, .inl f)), (zo, .inr (2, [.int (iI (zOff nn f)), .int (iI 0), .ref zb, .ref ze])), (zb, .inr (0, [.int (iI b1), .int (iI b2), .int (iI b3), .int (iI b4)])), (ze, .inr (0, [.int (iI e1), .int (iI e2), .int (iI e3), .int (iI e4)]))] H := hP
  have hD : va_D (wA [(tp, .inr (1, [.ref ba, .int (iI ((nn : Int))), .int (iI ((i : Int))), .int (iI (bI bk))])), (ba, .inl (cB, 400, .inl f)), (zo, .inr (2, [.int (iI off), .int (iI sv), .ref zb, .ref ze])), (zb, .inr (0, [.int (iI b1), .int (iI b2), .int (iI b3), .int (iI b4)])), (ze, .inr (0, [.int (iI e1), .int (iI e2), .int (iI e3), .int (iI e4)]))]) [(tp, .inr (1, [.ref ba, .int (iI ((nn : Int))), .int (iI ((((zS2 nn f).2.1 : Nat) : Int))), .int (iI (bI ((zS2 nn f).2.2)))])), (ba, .inl (cB, 400, .inl f)), (zo, .inr (2, [.int (iI (zOff nn f)), .int (iI 0), .ref zb, .ref ze])), (zb, .inr (0, [.int (iI b1), .int (iI b2), .int (iI b3), .int (iI b4)])), (ze, .inr (0, [.int (iI e1), .int (iI e2), .int (iI e3), .int (iI e4)]))] := hD
  refine lv_aload_n hx hb d_Tape_readZone_23 rfl (lv_at hl 0 rfl) ?_
  refine g_get hx hb hk hown hK hP 0 rfl f_Tape_19 rfl d_Tape_readZone_24 ?_
  refine lv_aload_n hx hb d_Tape_readZone_27 rfl (lv_at hl 0 rfl) ?_
  refine g_get hx hb hk hown hK hP 0 rfl f_Tape_15 rfl d_Tape_readZone_28 ?_
  refine ri_icmp_ge (tgt := 73) hx hb d_Tape_readZone_31 (by decide) (fun h31 => ?_) (fun h31 => ?_)
  · refine lv_aload_n hx hb d_Tape_readZone_73 rfl (lv_at hl 0 rfl) ?_
    refine g_get hx hb hk hown hK hP 0 rfl f_Tape_19 rfl d_Tape_readZone_74 ?_
    refine lv_aload_n hx hb d_Tape_readZone_77 rfl (lv_at hl 0 rfl) ?_
    refine g_get hx hb hk hown hK hP 0 rfl f_Tape_15 rfl d_Tape_readZone_78 ?_
    refine ri_icmp_ge (tgt := 89) hx hb d_Tape_readZone_81 (by decide) (fun h81 => ?_) (fun h81 => ?_)
    · refine lv_aload_n hx hb d_Tape_readZone_89 rfl (lv_at hl 0 rfl) ?_
      refine g_get hx hb hk hown hK hP 0 rfl f_Tape_22 rfl d_Tape_readZone_90 ?_
      have gB := bI_b ((zS2 nn f).2.2)
      refine ri_if_eq (tgt := 103) hx hb d_Tape_readZone_93 (by decide) (fun h93 => ?_) (fun h93 => ?_)
      · refine lv_iconst (v := iI (-1)) hx hb d_Tape_readZone_103 rfl ?_
        have hM : zMore nn f = false := by unfold zMore; exact decide_eq_false (by omega)
        have hE : zEnd nn f = (zS2 nn f).2 := by unfold zEnd; rw [hM]; rfl
        have hB : zBad nn f = (zS2 nn f).2.2 := by unfold zBad; rw [hE, decide_eq_false (show ¬ (zS2 nn f).2.1 < nn by omega)]; rfl
        exact m_iret hx hb hr hlk hP hS d_Tape_readZone_104 (by unfold zSave; rw [hE, hB, hM]; rfl) (by unfold zPlace; rw [hB, bI_e0 h93]; rfl)
      · refine lv_aload_n hx hb d_Tape_readZone_96 rfl (lv_at hl 0 rfl) ?_
        refine g_get hx hb hk hown hK hP 0 rfl f_Tape_19 rfl d_Tape_readZone_97 ?_
        refine lv_goto (tgt := 104) hx hb d_Tape_readZone_100 (by decide) ?_
        have hM : zMore nn f = false := by unfold zMore; exact decide_eq_false (by omega)
        have hE : zEnd nn f = (zS2 nn f).2 := by unfold zEnd; rw [hM]; rfl
        have hB : zBad nn f = (zS2 nn f).2.2 := by unfold zBad; rw [hE, decide_eq_false (show ¬ (zS2 nn f).2.1 < nn by omega)]; rfl
        exact m_iret hx hb hr hlk hP hS d_Tape_readZone_104 (by unfold zSave; rw [hE, hB, hM]; rfl) (by unfold zPlace; rw [hB, hE, bI_e1 h93]; rfl)
    · exfalso; omega
  · refine lv_aload_n hx hb d_Tape_readZone_34 rfl (lv_at hl 0 rfl) ?_
    refine m_callV (rest := []) (q0 := 0) hx hb (hml.trans hl.1.symm) hown hk hK k_Tape_38 (ct_Tape_readBlanks l D tys tp ba cB nn ((zS2 nn f).2.1) ((zS2 nn f).2.2) f hty (by omega) (zS2_b nn f)) hP hD hS [0, 1] rfl rfl rfl rfl rfl rfl rfl ⟨rfl, rfl⟩ ⟨by decide, by decide, by decide, by decide⟩ (Nat.le_of_ble_eq_true rfl) d_Tape_readZone_35 (fun H locs hP hD hS => ?_)
    have hP : va_P D vwCl [(tp, .inr (1, [.ref ba, .int (iI ((nn : Int))), .int (iI ((((zBl nn f (((zS2 nn f).2.1), ((zS2 nn f).2.2))).1 : Nat) : Int))), .int (iI (bI ((zBl nn f (((zS2 nn f).2.1), ((zS2 nn f).2.2))).2)))])), (ba, .inl (cB, 400, .inl f)), (zo, .inr (2, [.int (iI (zOff nn f)), .int (iI 0), .ref zb, .ref ze])), (zb, .inr (0, [.int (iI b1), .int (iI b2), .int (iI b3), .int (iI b4)])), (ze, .inr (0, [.int (iI e1), .int (iI e2), .int (iI e3), .int (iI e4)]))] H := hP
    have hD : va_D (wA [(tp, .inr (1, [.ref ba, .int (iI ((nn : Int))), .int (iI ((i : Int))), .int (iI (bI bk))])), (ba, .inl (cB, 400, .inl f)), (zo, .inr (2, [.int (iI off), .int (iI sv), .ref zb, .ref ze])), (zb, .inr (0, [.int (iI b1), .int (iI b2), .int (iI b3), .int (iI b4)])), (ze, .inr (0, [.int (iI e1), .int (iI e2), .int (iI e3), .int (iI e4)]))]) [(tp, .inr (1, [.ref ba, .int (iI ((nn : Int))), .int (iI ((((zBl nn f (((zS2 nn f).2.1), ((zS2 nn f).2.2))).1 : Nat) : Int))), .int (iI (bI ((zBl nn f (((zS2 nn f).2.1), ((zS2 nn f).2.2))).2)))])), (ba, .inl (cB, 400, .inl f)), (zo, .inr (2, [.int (iI (zOff nn f)), .int (iI 0), .ref zb, .ref ze])), (zb, .inr (0, [.int (iI b1), .int (iI b2), .int (iI b3), .int (iI b4)])), (ze, .inr (0, [.int (iI e1), .int (iI e2), .int (iI e3), .int (iI e4)]))] := hD
    have hP : va_P D vwCl [(tp, .inr (1, [.ref ba, .int (iI ((nn : Int))), .int (iI ((((zBl nn f (zS2 nn f).2).1 : Nat) : Int))), .int (iI (bI ((zBl nn f (zS2 nn f).2).2)))])), (ba, .inl (cB, 400, .inl f)), (zo, .inr (2, [.int (iI (zOff nn f)), .int (iI 0), .ref zb, .ref ze])), (zb, .inr (0, [.int (iI b1), .int (iI b2), .int (iI b3), .int (iI b4)])), (ze, .inr (0, [.int (iI e1), .int (iI e2), .int (iI e3), .int (iI e4)]))] H := hP
    have hD : va_D (wA [(tp, .inr (1, [.ref ba, .int (iI ((nn : Int))), .int (iI ((i : Int))), .int (iI (bI bk))])), (ba, .inl (cB, 400, .inl f)), (zo, .inr (2, [.int (iI off), .int (iI sv), .ref zb, .ref ze])), (zb, .inr (0, [.int (iI b1), .int (iI b2), .int (iI b3), .int (iI b4)])), (ze, .inr (0, [.int (iI e1), .int (iI e2), .int (iI e3), .int (iI e4)]))]) [(tp, .inr (1, [.ref ba, .int (iI ((nn : Int))), .int (iI ((((zBl nn f (zS2 nn f).2).1 : Nat) : Int))), .int (iI (bI ((zBl nn f (zS2 nn f).2).2)))])), (ba, .inl (cB, 400, .inl f)), (zo, .inr (2, [.int (iI (zOff nn f)), .int (iI 0), .ref zb, .ref ze])), (zb, .inr (0, [.int (iI b1), .int (iI b2), .int (iI b3), .int (iI b4)])), (ze, .inr (0, [.int (iI e1), .int (iI e2), .int (iI e3), .int (iI e4)]))] := hD
    refine lv_aload_n hx hb d_Tape_readZone_38 rfl (lv_at hl 1 rfl) ?_
    refine lv_aload_n hx hb d_Tape_readZone_39 rfl (lv_at hl 0 rfl) ?_
    refine lv_iconst (v := iI 1) hx hb d_Tape_readZone_40 rfl ?_
    refine lv_bipush (v := iI 120) hx hb d_Tape_readZone_41 (by decide) ?_
    refine m_callV (rest := [.ref zo]) (q0 := 0) hx hb (hml.trans hl.1.symm) hown hk hK k_Tape_41 (ct_Tape_readNumber l D tys tp ba cB nn ((zBl nn f (zS2 nn f).2).1) ((zBl nn f (zS2 nn f).2).2) f 1 120 hty (by omega) (zBl_b (f := f) (zS2_b nn f)).2 (by omega) (by omega) (by omega) (by omega)) hP hD hS [0, 1] rfl rfl rfl rfl rfl rfl rfl ⟨rfl, rfl⟩ ⟨by decide, by decide, by decide, by decide⟩ (Nat.le_of_ble_eq_true rfl) d_Tape_readZone_43 (fun H locs hP hD hS => ?_)
    have hP : va_P D vwCl [(tp, .inr (1, [.ref ba, .int (iI ((nn : Int))), .int (iI ((((zNum nn f 1 120 (((zBl nn f (zS2 nn f).2).1), ((zBl nn f (zS2 nn f).2).2))).2.1 : Nat) : Int))), .int (iI (bI ((zNum nn f 1 120 (((zBl nn f (zS2 nn f).2).1), ((zBl nn f (zS2 nn f).2).2))).2.2)))])), (ba, .inl (cB, 400, .inl f)), (zo, .inr (2, [.int (iI (zOff nn f)), .int (iI 0), .ref zb, .ref ze])), (zb, .inr (0, [.int (iI b1), .int (iI b2), .int (iI b3), .int (iI b4)])), (ze, .inr (0, [.int (iI e1), .int (iI e2), .int (iI e3), .int (iI e4)]))] H := hP
    have hD : va_D (wA [(tp, .inr (1, [.ref ba, .int (iI ((nn : Int))), .int (iI ((i : Int))), .int (iI (bI bk))])), (ba, .inl (cB, 400, .inl f)), (zo, .inr (2, [.int (iI off), .int (iI sv), .ref zb, .ref ze])), (zb, .inr (0, [.int (iI b1), .int (iI b2), .int (iI b3), .int (iI b4)])), (ze, .inr (0, [.int (iI e1), .int (iI e2), .int (iI e3), .int (iI e4)]))]) [(tp, .inr (1, [.ref ba, .int (iI ((nn : Int))), .int (iI ((((zNum nn f 1 120 (((zBl nn f (zS2 nn f).2).1), ((zBl nn f (zS2 nn f).2).2))).2.1 : Nat) : Int))), .int (iI (bI ((zNum nn f 1 120 (((zBl nn f (zS2 nn f).2).1), ((zBl nn f (zS2 nn f).2).2))).2.2)))])), (ba, .inl (cB, 400, .inl f)), (zo, .inr (2, [.int (iI (zOff nn f)), .int (iI 0), .ref zb, .ref ze])), (zb, .inr (0, [.int (iI b1), .int (iI b2), .int (iI b3), .int (iI b4)])), (ze, .inr (0, [.int (iI e1), .int (iI e2), .int (iI e3), .int (iI e4)]))] := hD
    have hP : va_P D vwCl [(tp, .inr (1, [.ref ba, .int (iI ((nn : Int))), .int (iI ((((zS4 nn f).2.1 : Nat) : Int))), .int (iI (bI ((zS4 nn f).2.2)))])), (ba, .inl (cB, 400, .inl f)), (zo, .inr (2, [.int (iI (zOff nn f)), .int (iI 0), .ref zb, .ref ze])), (zb, .inr (0, [.int (iI b1), .int (iI b2), .int (iI b3), .int (iI b4)])), (ze, .inr (0, [.int (iI e1), .int (iI e2), .int (iI e3), .int (iI e4)]))] H := hP
    have hD : va_D (wA [(tp, .inr (1, [.ref ba, .int (iI ((nn : Int))), .int (iI ((i : Int))), .int (iI (bI bk))])), (ba, .inl (cB, 400, .inl f)), (zo, .inr (2, [.int (iI off), .int (iI sv), .ref zb, .ref ze])), (zb, .inr (0, [.int (iI b1), .int (iI b2), .int (iI b3), .int (iI b4)])), (ze, .inr (0, [.int (iI e1), .int (iI e2), .int (iI e3), .int (iI e4)]))]) [(tp, .inr (1, [.ref ba, .int (iI ((nn : Int))), .int (iI ((((zS4 nn f).2.1 : Nat) : Int))), .int (iI (bI ((zS4 nn f).2.2)))])), (ba, .inl (cB, 400, .inl f)), (zo, .inr (2, [.int (iI (zOff nn f)), .int (iI 0), .ref zb, .ref ze])), (zb, .inr (0, [.int (iI b1), .int (iI b2), .int (iI b3), .int (iI b4)])), (ze, .inr (0, [.int (iI e1), .int (iI e2), .int (iI e3), .int (iI e4)]))] := hD
    refine g_putN hx hb hk hown hK hP hD hS 2 rfl f_Tape_35 fT_Zone rfl (rfl) rfl (Nat.le_of_ble_eq_true rfl) d_Tape_readZone_46 (fun H locs hP hD hS => ?_)
    have hP : va_P D vwCl [(tp, .inr (1, [.ref ba, .int (iI ((nn : Int))), .int (iI ((((zS4 nn f).2.1 : Nat) : Int))), .int (iI (bI ((zS4 nn f).2.2)))])), (ba, .inl (cB, 400, .inl f)), (zo, .inr (2, [.int (iI (zOff nn f)), .int (iI ((zS4 nn f).1)), .ref zb, .ref ze])), (zb, .inr (0, [.int (iI b1), .int (iI b2), .int (iI b3), .int (iI b4)])), (ze, .inr (0, [.int (iI e1), .int (iI e2), .int (iI e3), .int (iI e4)]))] H := hP
    have hD : va_D (wA [(tp, .inr (1, [.ref ba, .int (iI ((nn : Int))), .int (iI ((i : Int))), .int (iI (bI bk))])), (ba, .inl (cB, 400, .inl f)), (zo, .inr (2, [.int (iI off), .int (iI sv), .ref zb, .ref ze])), (zb, .inr (0, [.int (iI b1), .int (iI b2), .int (iI b3), .int (iI b4)])), (ze, .inr (0, [.int (iI e1), .int (iI e2), .int (iI e3), .int (iI e4)]))]) [(tp, .inr (1, [.ref ba, .int (iI ((nn : Int))), .int (iI ((((zS4 nn f).2.1 : Nat) : Int))), .int (iI (bI ((zS4 nn f).2.2)))])), (ba, .inl (cB, 400, .inl f)), (zo, .inr (2, [.int (iI (zOff nn f)), .int (iI ((zS4 nn f).1)), .ref zb, .ref ze])), (zb, .inr (0, [.int (iI b1), .int (iI b2), .int (iI b3), .int (iI b4)])), (ze, .inr (0, [.int (iI e1), .int (iI e2), .int (iI e3), .int (iI e4)]))] := hD
    refine lv_aload_n hx hb d_Tape_readZone_49 rfl (lv_at hl 0 rfl) ?_
    refine m_callV (rest := []) (q0 := 0) hx hb (hml.trans hl.1.symm) hown hk hK k_Tape_38 (ct_Tape_readBlanks l D tys tp ba cB nn ((zS4 nn f).2.1) ((zS4 nn f).2.2) f hty (by omega) (zS4_b nn f)) hP hD hS [0, 1] rfl rfl rfl rfl rfl rfl rfl ⟨rfl, rfl⟩ ⟨by decide, by decide, by decide, by decide⟩ (Nat.le_of_ble_eq_true rfl) d_Tape_readZone_50 (fun H locs hP hD hS => ?_)
    have hP : va_P D vwCl [(tp, .inr (1, [.ref ba, .int (iI ((nn : Int))), .int (iI ((((zBl nn f (((zS4 nn f).2.1), ((zS4 nn f).2.2))).1 : Nat) : Int))), .int (iI (bI ((zBl nn f (((zS4 nn f).2.1), ((zS4 nn f).2.2))).2)))])), (ba, .inl (cB, 400, .inl f)), (zo, .inr (2, [.int (iI (zOff nn f)), .int (iI ((zS4 nn f).1)), .ref zb, .ref ze])), (zb, .inr (0, [.int (iI b1), .int (iI b2), .int (iI b3), .int (iI b4)])), (ze, .inr (0, [.int (iI e1), .int (iI e2), .int (iI e3), .int (iI e4)]))] H := hP
    have hD : va_D (wA [(tp, .inr (1, [.ref ba, .int (iI ((nn : Int))), .int (iI ((i : Int))), .int (iI (bI bk))])), (ba, .inl (cB, 400, .inl f)), (zo, .inr (2, [.int (iI off), .int (iI sv), .ref zb, .ref ze])), (zb, .inr (0, [.int (iI b1), .int (iI b2), .int (iI b3), .int (iI b4)])), (ze, .inr (0, [.int (iI e1), .int (iI e2), .int (iI e3), .int (iI e4)]))]) [(tp, .inr (1, [.ref ba, .int (iI ((nn : Int))), .int (iI ((((zBl nn f (((zS4 nn f).2.1), ((zS4 nn f).2.2))).1 : Nat) : Int))), .int (iI (bI ((zBl nn f (((zS4 nn f).2.1), ((zS4 nn f).2.2))).2)))])), (ba, .inl (cB, 400, .inl f)), (zo, .inr (2, [.int (iI (zOff nn f)), .int (iI ((zS4 nn f).1)), .ref zb, .ref ze])), (zb, .inr (0, [.int (iI b1), .int (iI b2), .int (iI b3), .int (iI b4)])), (ze, .inr (0, [.int (iI e1), .int (iI e2), .int (iI e3), .int (iI e4)]))] := hD
    have hP : va_P D vwCl [(tp, .inr (1, [.ref ba, .int (iI ((nn : Int))), .int (iI ((((zBl nn f (zS4 nn f).2).1 : Nat) : Int))), .int (iI (bI ((zBl nn f (zS4 nn f).2).2)))])), (ba, .inl (cB, 400, .inl f)), (zo, .inr (2, [.int (iI (zOff nn f)), .int (iI ((zS4 nn f).1)), .ref zb, .ref ze])), (zb, .inr (0, [.int (iI b1), .int (iI b2), .int (iI b3), .int (iI b4)])), (ze, .inr (0, [.int (iI e1), .int (iI e2), .int (iI e3), .int (iI e4)]))] H := hP
    have hD : va_D (wA [(tp, .inr (1, [.ref ba, .int (iI ((nn : Int))), .int (iI ((i : Int))), .int (iI (bI bk))])), (ba, .inl (cB, 400, .inl f)), (zo, .inr (2, [.int (iI off), .int (iI sv), .ref zb, .ref ze])), (zb, .inr (0, [.int (iI b1), .int (iI b2), .int (iI b3), .int (iI b4)])), (ze, .inr (0, [.int (iI e1), .int (iI e2), .int (iI e3), .int (iI e4)]))]) [(tp, .inr (1, [.ref ba, .int (iI ((nn : Int))), .int (iI ((((zBl nn f (zS4 nn f).2).1 : Nat) : Int))), .int (iI (bI ((zBl nn f (zS4 nn f).2).2)))])), (ba, .inl (cB, 400, .inl f)), (zo, .inr (2, [.int (iI (zOff nn f)), .int (iI ((zS4 nn f).1)), .ref zb, .ref ze])), (zb, .inr (0, [.int (iI b1), .int (iI b2), .int (iI b3), .int (iI b4)])), (ze, .inr (0, [.int (iI e1), .int (iI e2), .int (iI e3), .int (iI e4)]))] := hD
    refine lv_aload_n hx hb d_Tape_readZone_53 rfl (lv_at hl 0 rfl) ?_
    refine lv_aload_n hx hb d_Tape_readZone_54 rfl (lv_at hl 1 rfl) ?_
    refine g_getN hx hb hk hown hK hP 2 rfl f_Tape_45 rfl d_Tape_readZone_55 ?_
    refine m_callV (rest := []) (q0 := 0) hx hb (hml.trans hl.1.symm) hown hk hK k_Tape_49 (ct_Tape_readRule l D tys tp ba cB nn f ((zBl nn f (zS4 nn f).2)) zb b1 b2 b3 b4 hty (by omega) (zBl_b (f := f) (zS4_b nn f)).2) hP hD hS [0, 1, 3] rfl rfl rfl rfl rfl rfl rfl ⟨rfl, rfl⟩ ⟨by decide, by decide, by decide, by decide⟩ (Nat.le_of_ble_eq_true rfl) d_Tape_readZone_58 (fun H locs hP hD hS => ?_)
    have hP : va_P D vwCl [(tp, .inr (1, [.ref ba, .int (iI ((nn : Int))), .int (iI ((((zRu nn f ((zBl nn f (zS4 nn f).2))).2.1 : Nat) : Int))), .int (iI (bI ((zRu nn f ((zBl nn f (zS4 nn f).2))).2.2)))])), (ba, .inl (cB, 400, .inl f)), (zo, .inr (2, [.int (iI (zOff nn f)), .int (iI ((zS4 nn f).1)), .ref zb, .ref ze])), (zb, .inr (0, [.int (iI ((zRu nn f ((zBl nn f (zS4 nn f).2))).1.1)), .int (iI ((zRu nn f ((zBl nn f (zS4 nn f).2))).1.2.1)), .int (iI ((zRu nn f ((zBl nn f (zS4 nn f).2))).1.2.2.1)), .int (iI ((zRu nn f ((zBl nn f (zS4 nn f).2))).1.2.2.2))])), (ze, .inr (0, [.int (iI e1), .int (iI e2), .int (iI e3), .int (iI e4)]))] H := hP
    have hD : va_D (wA [(tp, .inr (1, [.ref ba, .int (iI ((nn : Int))), .int (iI ((i : Int))), .int (iI (bI bk))])), (ba, .inl (cB, 400, .inl f)), (zo, .inr (2, [.int (iI off), .int (iI sv), .ref zb, .ref ze])), (zb, .inr (0, [.int (iI b1), .int (iI b2), .int (iI b3), .int (iI b4)])), (ze, .inr (0, [.int (iI e1), .int (iI e2), .int (iI e3), .int (iI e4)]))]) [(tp, .inr (1, [.ref ba, .int (iI ((nn : Int))), .int (iI ((((zRu nn f ((zBl nn f (zS4 nn f).2))).2.1 : Nat) : Int))), .int (iI (bI ((zRu nn f ((zBl nn f (zS4 nn f).2))).2.2)))])), (ba, .inl (cB, 400, .inl f)), (zo, .inr (2, [.int (iI (zOff nn f)), .int (iI ((zS4 nn f).1)), .ref zb, .ref ze])), (zb, .inr (0, [.int (iI ((zRu nn f ((zBl nn f (zS4 nn f).2))).1.1)), .int (iI ((zRu nn f ((zBl nn f (zS4 nn f).2))).1.2.1)), .int (iI ((zRu nn f ((zBl nn f (zS4 nn f).2))).1.2.2.1)), .int (iI ((zRu nn f ((zBl nn f (zS4 nn f).2))).1.2.2.2))])), (ze, .inr (0, [.int (iI e1), .int (iI e2), .int (iI e3), .int (iI e4)]))] := hD
    have hP : va_P D vwCl [(tp, .inr (1, [.ref ba, .int (iI ((nn : Int))), .int (iI ((((zR1 nn f).2.1 : Nat) : Int))), .int (iI (bI ((zR1 nn f).2.2)))])), (ba, .inl (cB, 400, .inl f)), (zo, .inr (2, [.int (iI (zOff nn f)), .int (iI ((zS4 nn f).1)), .ref zb, .ref ze])), (zb, .inr (0, [.int (iI ((zR1 nn f).1.1)), .int (iI ((zR1 nn f).1.2.1)), .int (iI ((zR1 nn f).1.2.2.1)), .int (iI ((zR1 nn f).1.2.2.2))])), (ze, .inr (0, [.int (iI e1), .int (iI e2), .int (iI e3), .int (iI e4)]))] H := hP
    have hD : va_D (wA [(tp, .inr (1, [.ref ba, .int (iI ((nn : Int))), .int (iI ((i : Int))), .int (iI (bI bk))])), (ba, .inl (cB, 400, .inl f)), (zo, .inr (2, [.int (iI off), .int (iI sv), .ref zb, .ref ze])), (zb, .inr (0, [.int (iI b1), .int (iI b2), .int (iI b3), .int (iI b4)])), (ze, .inr (0, [.int (iI e1), .int (iI e2), .int (iI e3), .int (iI e4)]))]) [(tp, .inr (1, [.ref ba, .int (iI ((nn : Int))), .int (iI ((((zR1 nn f).2.1 : Nat) : Int))), .int (iI (bI ((zR1 nn f).2.2)))])), (ba, .inl (cB, 400, .inl f)), (zo, .inr (2, [.int (iI (zOff nn f)), .int (iI ((zS4 nn f).1)), .ref zb, .ref ze])), (zb, .inr (0, [.int (iI ((zR1 nn f).1.1)), .int (iI ((zR1 nn f).1.2.1)), .int (iI ((zR1 nn f).1.2.2.1)), .int (iI ((zR1 nn f).1.2.2.2))])), (ze, .inr (0, [.int (iI e1), .int (iI e2), .int (iI e3), .int (iI e4)]))] := hD
    refine lv_aload_n hx hb d_Tape_readZone_61 rfl (lv_at hl 0 rfl) ?_
    refine m_callV (rest := []) (q0 := 0) hx hb (hml.trans hl.1.symm) hown hk hK k_Tape_38 (ct_Tape_readBlanks l D tys tp ba cB nn ((zR1 nn f).2.1) ((zR1 nn f).2.2) f hty (by omega) (zR1_b nn f)) hP hD hS [0, 1] rfl rfl rfl rfl rfl rfl rfl ⟨rfl, rfl⟩ ⟨by decide, by decide, by decide, by decide⟩ (Nat.le_of_ble_eq_true rfl) d_Tape_readZone_62 (fun H locs hP hD hS => ?_)
    have hP : va_P D vwCl [(tp, .inr (1, [.ref ba, .int (iI ((nn : Int))), .int (iI ((((zBl nn f (((zR1 nn f).2.1), ((zR1 nn f).2.2))).1 : Nat) : Int))), .int (iI (bI ((zBl nn f (((zR1 nn f).2.1), ((zR1 nn f).2.2))).2)))])), (ba, .inl (cB, 400, .inl f)), (zo, .inr (2, [.int (iI (zOff nn f)), .int (iI ((zS4 nn f).1)), .ref zb, .ref ze])), (zb, .inr (0, [.int (iI ((zR1 nn f).1.1)), .int (iI ((zR1 nn f).1.2.1)), .int (iI ((zR1 nn f).1.2.2.1)), .int (iI ((zR1 nn f).1.2.2.2))])), (ze, .inr (0, [.int (iI e1), .int (iI e2), .int (iI e3), .int (iI e4)]))] H := hP
    have hD : va_D (wA [(tp, .inr (1, [.ref ba, .int (iI ((nn : Int))), .int (iI ((i : Int))), .int (iI (bI bk))])), (ba, .inl (cB, 400, .inl f)), (zo, .inr (2, [.int (iI off), .int (iI sv), .ref zb, .ref ze])), (zb, .inr (0, [.int (iI b1), .int (iI b2), .int (iI b3), .int (iI b4)])), (ze, .inr (0, [.int (iI e1), .int (iI e2), .int (iI e3), .int (iI e4)]))]) [(tp, .inr (1, [.ref ba, .int (iI ((nn : Int))), .int (iI ((((zBl nn f (((zR1 nn f).2.1), ((zR1 nn f).2.2))).1 : Nat) : Int))), .int (iI (bI ((zBl nn f (((zR1 nn f).2.1), ((zR1 nn f).2.2))).2)))])), (ba, .inl (cB, 400, .inl f)), (zo, .inr (2, [.int (iI (zOff nn f)), .int (iI ((zS4 nn f).1)), .ref zb, .ref ze])), (zb, .inr (0, [.int (iI ((zR1 nn f).1.1)), .int (iI ((zR1 nn f).1.2.1)), .int (iI ((zR1 nn f).1.2.2.1)), .int (iI ((zR1 nn f).1.2.2.2))])), (ze, .inr (0, [.int (iI e1), .int (iI e2), .int (iI e3), .int (iI e4)]))] := hD
    have hP : va_P D vwCl [(tp, .inr (1, [.ref ba, .int (iI ((nn : Int))), .int (iI ((((zBl nn f (zR1 nn f).2).1 : Nat) : Int))), .int (iI (bI ((zBl nn f (zR1 nn f).2).2)))])), (ba, .inl (cB, 400, .inl f)), (zo, .inr (2, [.int (iI (zOff nn f)), .int (iI ((zS4 nn f).1)), .ref zb, .ref ze])), (zb, .inr (0, [.int (iI ((zR1 nn f).1.1)), .int (iI ((zR1 nn f).1.2.1)), .int (iI ((zR1 nn f).1.2.2.1)), .int (iI ((zR1 nn f).1.2.2.2))])), (ze, .inr (0, [.int (iI e1), .int (iI e2), .int (iI e3), .int (iI e4)]))] H := hP
    have hD : va_D (wA [(tp, .inr (1, [.ref ba, .int (iI ((nn : Int))), .int (iI ((i : Int))), .int (iI (bI bk))])), (ba, .inl (cB, 400, .inl f)), (zo, .inr (2, [.int (iI off), .int (iI sv), .ref zb, .ref ze])), (zb, .inr (0, [.int (iI b1), .int (iI b2), .int (iI b3), .int (iI b4)])), (ze, .inr (0, [.int (iI e1), .int (iI e2), .int (iI e3), .int (iI e4)]))]) [(tp, .inr (1, [.ref ba, .int (iI ((nn : Int))), .int (iI ((((zBl nn f (zR1 nn f).2).1 : Nat) : Int))), .int (iI (bI ((zBl nn f (zR1 nn f).2).2)))])), (ba, .inl (cB, 400, .inl f)), (zo, .inr (2, [.int (iI (zOff nn f)), .int (iI ((zS4 nn f).1)), .ref zb, .ref ze])), (zb, .inr (0, [.int (iI ((zR1 nn f).1.1)), .int (iI ((zR1 nn f).1.2.1)), .int (iI ((zR1 nn f).1.2.2.1)), .int (iI ((zR1 nn f).1.2.2.2))])), (ze, .inr (0, [.int (iI e1), .int (iI e2), .int (iI e3), .int (iI e4)]))] := hD
    refine lv_aload_n hx hb d_Tape_readZone_65 rfl (lv_at hl 0 rfl) ?_
    refine lv_aload_n hx hb d_Tape_readZone_66 rfl (lv_at hl 1 rfl) ?_
    refine g_getN hx hb hk hown hK hP 2 rfl f_Tape_53 rfl d_Tape_readZone_67 ?_
    refine m_callV (rest := []) (q0 := 0) hx hb (hml.trans hl.1.symm) hown hk hK k_Tape_49 (ct_Tape_readRule l D tys tp ba cB nn f ((zBl nn f (zR1 nn f).2)) ze e1 e2 e3 e4 hty (by omega) (zBl_b (f := f) (zR1_b nn f)).2) hP hD hS [0, 1, 4] rfl rfl rfl rfl rfl rfl rfl ⟨rfl, rfl⟩ ⟨by decide, by decide, by decide, by decide⟩ (Nat.le_of_ble_eq_true rfl) d_Tape_readZone_70 (fun H locs hP hD hS => ?_)
    have hP : va_P D vwCl [(tp, .inr (1, [.ref ba, .int (iI ((nn : Int))), .int (iI ((((zRu nn f ((zBl nn f (zR1 nn f).2))).2.1 : Nat) : Int))), .int (iI (bI ((zRu nn f ((zBl nn f (zR1 nn f).2))).2.2)))])), (ba, .inl (cB, 400, .inl f)), (zo, .inr (2, [.int (iI (zOff nn f)), .int (iI ((zS4 nn f).1)), .ref zb, .ref ze])), (zb, .inr (0, [.int (iI ((zR1 nn f).1.1)), .int (iI ((zR1 nn f).1.2.1)), .int (iI ((zR1 nn f).1.2.2.1)), .int (iI ((zR1 nn f).1.2.2.2))])), (ze, .inr (0, [.int (iI ((zRu nn f ((zBl nn f (zR1 nn f).2))).1.1)), .int (iI ((zRu nn f ((zBl nn f (zR1 nn f).2))).1.2.1)), .int (iI ((zRu nn f ((zBl nn f (zR1 nn f).2))).1.2.2.1)), .int (iI ((zRu nn f ((zBl nn f (zR1 nn f).2))).1.2.2.2))]))] H := hP
    have hD : va_D (wA [(tp, .inr (1, [.ref ba, .int (iI ((nn : Int))), .int (iI ((i : Int))), .int (iI (bI bk))])), (ba, .inl (cB, 400, .inl f)), (zo, .inr (2, [.int (iI off), .int (iI sv), .ref zb, .ref ze])), (zb, .inr (0, [.int (iI b1), .int (iI b2), .int (iI b3), .int (iI b4)])), (ze, .inr (0, [.int (iI e1), .int (iI e2), .int (iI e3), .int (iI e4)]))]) [(tp, .inr (1, [.ref ba, .int (iI ((nn : Int))), .int (iI ((((zRu nn f ((zBl nn f (zR1 nn f).2))).2.1 : Nat) : Int))), .int (iI (bI ((zRu nn f ((zBl nn f (zR1 nn f).2))).2.2)))])), (ba, .inl (cB, 400, .inl f)), (zo, .inr (2, [.int (iI (zOff nn f)), .int (iI ((zS4 nn f).1)), .ref zb, .ref ze])), (zb, .inr (0, [.int (iI ((zR1 nn f).1.1)), .int (iI ((zR1 nn f).1.2.1)), .int (iI ((zR1 nn f).1.2.2.1)), .int (iI ((zR1 nn f).1.2.2.2))])), (ze, .inr (0, [.int (iI ((zRu nn f ((zBl nn f (zR1 nn f).2))).1.1)), .int (iI ((zRu nn f ((zBl nn f (zR1 nn f).2))).1.2.1)), .int (iI ((zRu nn f ((zBl nn f (zR1 nn f).2))).1.2.2.1)), .int (iI ((zRu nn f ((zBl nn f (zR1 nn f).2))).1.2.2.2))]))] := hD
    have hP : va_P D vwCl [(tp, .inr (1, [.ref ba, .int (iI ((nn : Int))), .int (iI ((((zR2 nn f).2.1 : Nat) : Int))), .int (iI (bI ((zR2 nn f).2.2)))])), (ba, .inl (cB, 400, .inl f)), (zo, .inr (2, [.int (iI (zOff nn f)), .int (iI ((zS4 nn f).1)), .ref zb, .ref ze])), (zb, .inr (0, [.int (iI ((zR1 nn f).1.1)), .int (iI ((zR1 nn f).1.2.1)), .int (iI ((zR1 nn f).1.2.2.1)), .int (iI ((zR1 nn f).1.2.2.2))])), (ze, .inr (0, [.int (iI ((zR2 nn f).1.1)), .int (iI ((zR2 nn f).1.2.1)), .int (iI ((zR2 nn f).1.2.2.1)), .int (iI ((zR2 nn f).1.2.2.2))]))] H := hP
    have hD : va_D (wA [(tp, .inr (1, [.ref ba, .int (iI ((nn : Int))), .int (iI ((i : Int))), .int (iI (bI bk))])), (ba, .inl (cB, 400, .inl f)), (zo, .inr (2, [.int (iI off), .int (iI sv), .ref zb, .ref ze])), (zb, .inr (0, [.int (iI b1), .int (iI b2), .int (iI b3), .int (iI b4)])), (ze, .inr (0, [.int (iI e1), .int (iI e2), .int (iI e3), .int (iI e4)]))]) [(tp, .inr (1, [.ref ba, .int (iI ((nn : Int))), .int (iI ((((zR2 nn f).2.1 : Nat) : Int))), .int (iI (bI ((zR2 nn f).2.2)))])), (ba, .inl (cB, 400, .inl f)), (zo, .inr (2, [.int (iI (zOff nn f)), .int (iI ((zS4 nn f).1)), .ref zb, .ref ze])), (zb, .inr (0, [.int (iI ((zR1 nn f).1.1)), .int (iI ((zR1 nn f).1.2.1)), .int (iI ((zR1 nn f).1.2.2.1)), .int (iI ((zR1 nn f).1.2.2.2))])), (ze, .inr (0, [.int (iI ((zR2 nn f).1.1)), .int (iI ((zR2 nn f).1.2.1)), .int (iI ((zR2 nn f).1.2.2.1)), .int (iI ((zR2 nn f).1.2.2.2))]))] := hD
    refine lv_aload_n hx hb d_Tape_readZone_73 rfl (lv_at hl 0 rfl) ?_
    refine g_get hx hb hk hown hK hP 0 rfl f_Tape_19 rfl d_Tape_readZone_74 ?_
    refine lv_aload_n hx hb d_Tape_readZone_77 rfl (lv_at hl 0 rfl) ?_
    refine g_get hx hb hk hown hK hP 0 rfl f_Tape_15 rfl d_Tape_readZone_78 ?_
    refine ri_icmp_ge (tgt := 89) hx hb d_Tape_readZone_81 (by decide) (fun h81 => ?_) (fun h81 => ?_)
    · refine lv_aload_n hx hb d_Tape_readZone_89 rfl (lv_at hl 0 rfl) ?_
      refine g_get hx hb hk hown hK hP 0 rfl f_Tape_22 rfl d_Tape_readZone_90 ?_
      have gB := bI_b ((zR2 nn f).2.2)
      refine ri_if_eq (tgt := 103) hx hb d_Tape_readZone_93 (by decide) (fun h93 => ?_) (fun h93 => ?_)
      · refine lv_iconst (v := iI (-1)) hx hb d_Tape_readZone_103 rfl ?_
        have hM : zMore nn f = true := by unfold zMore; exact decide_eq_true (by omega)
        have hE : zEnd nn f = (zR2 nn f).2 := by unfold zEnd; rw [hM]; rfl
        have hB : zBad nn f = (zR2 nn f).2.2 := by unfold zBad; rw [hE, decide_eq_false (show ¬ (zR2 nn f).2.1 < nn by omega)]; rfl
        exact m_iret hx hb hr hlk hP hS d_Tape_readZone_104 (by unfold zSave; rw [hE, hB, hM]; rfl) (by unfold zPlace; rw [hB, bI_e0 h93]; rfl)
      · refine lv_aload_n hx hb d_Tape_readZone_96 rfl (lv_at hl 0 rfl) ?_
        refine g_get hx hb hk hown hK hP 0 rfl f_Tape_19 rfl d_Tape_readZone_97 ?_
        refine lv_goto (tgt := 104) hx hb d_Tape_readZone_100 (by decide) ?_
        have hM : zMore nn f = true := by unfold zMore; exact decide_eq_true (by omega)
        have hE : zEnd nn f = (zR2 nn f).2 := by unfold zEnd; rw [hM]; rfl
        have hB : zBad nn f = (zR2 nn f).2.2 := by unfold zBad; rw [hE, decide_eq_false (show ¬ (zR2 nn f).2.1 < nn by omega)]; rfl
        exact m_iret hx hb hr hlk hP hS d_Tape_readZone_104 (by unfold zSave; rw [hE, hB, hM]; rfl) (by unfold zPlace; rw [hB, hE, bI_e1 h93]; rfl)
    · refine lv_aload_n hx hb d_Tape_readZone_84 rfl (lv_at hl 0 rfl) ?_
      refine lv_iconst (v := iI 1) hx hb d_Tape_readZone_85 rfl ?_
      refine g_put hx hb hk hown hK hP hD hS 0 rfl f_Tape_22 fT_Tape rfl (zb_nar (by decide)) rfl (Nat.le_of_ble_eq_true rfl) d_Tape_readZone_86 (fun H locs hP hD hS => ?_)
      have hP : va_P D vwCl [(tp, .inr (1, [.ref ba, .int (iI ((nn : Int))), .int (iI ((((zR2 nn f).2.1 : Nat) : Int))), .int (iI 1)])), (ba, .inl (cB, 400, .inl f)), (zo, .inr (2, [.int (iI (zOff nn f)), .int (iI ((zS4 nn f).1)), .ref zb, .ref ze])), (zb, .inr (0, [.int (iI ((zR1 nn f).1.1)), .int (iI ((zR1 nn f).1.2.1)), .int (iI ((zR1 nn f).1.2.2.1)), .int (iI ((zR1 nn f).1.2.2.2))])), (ze, .inr (0, [.int (iI ((zR2 nn f).1.1)), .int (iI ((zR2 nn f).1.2.1)), .int (iI ((zR2 nn f).1.2.2.1)), .int (iI ((zR2 nn f).1.2.2.2))]))] H := hP
      have hD : va_D (wA [(tp, .inr (1, [.ref ba, .int (iI ((nn : Int))), .int (iI ((i : Int))), .int (iI (bI bk))])), (ba, .inl (cB, 400, .inl f)), (zo, .inr (2, [.int (iI off), .int (iI sv), .ref zb, .ref ze])), (zb, .inr (0, [.int (iI b1), .int (iI b2), .int (iI b3), .int (iI b4)])), (ze, .inr (0, [.int (iI e1), .int (iI e2), .int (iI e3), .int (iI e4)]))]) [(tp, .inr (1, [.ref ba, .int (iI ((nn : Int))), .int (iI ((((zR2 nn f).2.1 : Nat) : Int))), .int (iI 1)])), (ba, .inl (cB, 400, .inl f)), (zo, .inr (2, [.int (iI (zOff nn f)), .int (iI ((zS4 nn f).1)), .ref zb, .ref ze])), (zb, .inr (0, [.int (iI ((zR1 nn f).1.1)), .int (iI ((zR1 nn f).1.2.1)), .int (iI ((zR1 nn f).1.2.2.1)), .int (iI ((zR1 nn f).1.2.2.2))])), (ze, .inr (0, [.int (iI ((zR2 nn f).1.1)), .int (iI ((zR2 nn f).1.2.1)), .int (iI ((zR2 nn f).1.2.2.1)), .int (iI ((zR2 nn f).1.2.2.2))]))] := hD
      refine lv_aload_n hx hb d_Tape_readZone_89 rfl (lv_at hl 0 rfl) ?_
      refine g_get hx hb hk hown hK hP 0 rfl f_Tape_22 rfl d_Tape_readZone_90 ?_
      refine ri_if_eq (tgt := 103) hx hb d_Tape_readZone_93 (by decide) (fun h93 => ?_) (fun h93 => ?_)
      · exfalso; omega
      · refine lv_aload_n hx hb d_Tape_readZone_96 rfl (lv_at hl 0 rfl) ?_
        refine g_get hx hb hk hown hK hP 0 rfl f_Tape_19 rfl d_Tape_readZone_97 ?_
        refine lv_goto (tgt := 104) hx hb d_Tape_readZone_100 (by decide) ?_
        have hM : zMore nn f = true := by unfold zMore; exact decide_eq_true (by omega)
        have hE : zEnd nn f = (zR2 nn f).2 := by unfold zEnd; rw [hM]; rfl
        have hB : zBad nn f = true := by unfold zBad; rw [hE, decide_eq_true (show (zR2 nn f).2.1 < nn by omega)]; rfl
        exact m_iret hx hb hr hlk hP hS d_Tape_readZone_104 (by unfold zSave; rw [hE, hB, hM]; rfl) (by unfold zPlace; rw [hB, hE]; rfl)
abbrev rm_Tape_append : Room := { frames := 0, cells := 0, slots := 0, locals := 0 }
set_option maxHeartbeats 4000000 in
set_option maxRecDepth 100000 in
theorem ct_Tape_append (l : Launch) (D : va_G) (tys : List (ClassId × FieldType)) (tp : Nat) (ba : Nat) (cB : ClassId) (nn : Nat) (i : Nat) (bk : Bool) (f : Nat → Int32) (xx : Int32) (hty : tys[0]? = some (cB, .byte)) (gn : nn + 4 ≤ 400) : mMet l y_Tape_append c_Tape_append 3 none rm_Tape_append D tys [.ref tp, .int xx] [(tp, .inr (1, [.ref ba, .int (iI ((nn : Int))), .int (iI ((i : Int))), .int (iI (bI bk))])), (ba, .inl (cB, 400, .inl f))] none [(tp, .inr (1, [.ref ba, .int (iI (((nn + 4 : Nat) : Int))), .int (iI ((i : Int))), .int (iI (bI bk))])), (ba, .inl (cB, 400, .inl (ap4 f nn xx)))] := by
  refine mMet_of (by decide) (Nat.le_of_ble_eq_true rfl) ?_
  intro p e s m below meth c hx hb hr hown hlk hml hk hK hP hD hS ls hl
  have hl : lv_has ls 3 [(0, .ref tp), (1, .int xx)] := hl
  refine lv_bipush (v := iI 24) hx hb d_Tape_append_0 (by decide) ?_
  refine lv_istore_n (lv' := [(2, .int (iI 24)), (0, .ref tp), (1, .int xx)]) hx hb d_Tape_append_2 rfl hl (by decide) rfl (fun ls hl => ?_)
  refine lv_iload_n hx hb d_Tape_append_3 rfl (lv_at hl 0 rfl) ?_
  refine ri_if_lt (tgt := 48) hx hb d_Tape_append_4 (by decide) (fun h4 => ?_) (fun h4 => ?_)
  · exfalso; omega
  · refine lv_aload_n hx hb d_Tape_append_7 rfl (lv_at hl 1 rfl) ?_
    refine g_get hx hb hk hown hK hP 0 rfl f_Tape_15 rfl d_Tape_append_8 ?_
    refine lv_aload_n hx hb d_Tape_append_11 rfl (lv_at hl 1 rfl) ?_
    refine g_get hx hb hk hown hK hP 0 rfl f_Tape_9 rfl d_Tape_append_12 ?_
    refine va_alen hx hb hK hP 1 0 rfl hty (v := iI 400) (show Int32.ofNat 400 = iI 400 from by decide) d_Tape_append_15 ?_
    refine ri_icmp_ge (tgt := 48) hx hb d_Tape_append_16 (by decide) (fun h16 => ?_) (fun h16 => ?_)
    · exfalso; omega
    · refine lv_aload_n hx hb d_Tape_append_19 rfl (lv_at hl 1 rfl) ?_
      refine g_get hx hb hk hown hK hP 0 rfl f_Tape_9 rfl d_Tape_append_20 ?_
      refine lv_aload_n hx hb d_Tape_append_23 rfl (lv_at hl 1 rfl) ?_
      refine g_get hx hb hk hown hK hP 0 rfl f_Tape_15 rfl d_Tape_append_24 ?_
      refine lv_iload_n hx hb d_Tape_append_27 rfl (lv_at hl 2 rfl) ?_
      refine lv_iload_n hx hb d_Tape_append_28 rfl (lv_at hl 0 rfl) ?_
      refine lv_ishr hx hb d_Tape_append_29 ?_
      refine lv_i2b (v := bs xx 24) hx hb d_Tape_append_30 rfl ?_
      refine g_bast (i := nn) hx hb hK hP hD hS 1 0 rfl hty d_Tape_append_31 (fun H locs hP hD hS => ?_) (pk_vb _) (by omega) (by decide)
      have hP : va_P D vwCl [(tp, .inr (1, [.ref ba, .int (iI ((nn : Int))), .int (iI ((i : Int))), .int (iI (bI bk))])), (ba, .inl (cB, 400, .inl (upd f nn (bs xx 24))))] H := hP
      have hD : va_D (wA [(tp, .inr (1, [.ref ba, .int (iI ((nn : Int))), .int (iI ((i : Int))), .int (iI (bI bk))])), (ba, .inl (cB, 400, .inl f))]) [(tp, .inr (1, [.ref ba, .int (iI ((nn : Int))), .int (iI ((i : Int))), .int (iI (bI bk))])), (ba, .inl (cB, 400, .inl (upd f nn (bs xx 24))))] := hD
      refine lv_aload_n hx hb d_Tape_append_32 rfl (lv_at hl 1 rfl) ?_
      refine lv_dup hx hb d_Tape_append_33 rfl ?_
      refine g_get hx hb hk hown hK hP 0 rfl f_Tape_15 rfl d_Tape_append_34 ?_
      refine lv_iconst (v := iI 1) hx hb d_Tape_append_37 rfl ?_
      refine ri_iadd hx hb d_Tape_append_38 ?_
      refine ri_i (show ((nn : Int)) + 1 = ((nn + 1 : Nat) : Int) from by omega) ?_
      refine g_put hx hb hk hown hK hP hD hS 0 rfl f_Tape_15 fT_Tape rfl (rfl) rfl (Nat.le_of_ble_eq_true rfl) d_Tape_append_39 (fun H locs hP hD hS => ?_)
      have hP : va_P D vwCl [(tp, .inr (1, [.ref ba, .int (iI (((nn + 1 : Nat) : Int))), .int (iI ((i : Int))), .int (iI (bI bk))])), (ba, .inl (cB, 400, .inl (upd f nn (bs xx 24))))] H := hP
      have hD : va_D (wA [(tp, .inr (1, [.ref ba, .int (iI ((nn : Int))), .int (iI ((i : Int))), .int (iI (bI bk))])), (ba, .inl (cB, 400, .inl f))]) [(tp, .inr (1, [.ref ba, .int (iI (((nn + 1 : Nat) : Int))), .int (iI ((i : Int))), .int (iI (bI bk))])), (ba, .inl (cB, 400, .inl (upd f nn (bs xx 24))))] := hD
      refine lv_iinc (k := 0) (v := iI (24 - 8)) (lv' := [(2, .int (iI (24 - 8))), (0, .ref tp), (1, .int xx)]) hx hb d_Tape_append_42 hl rfl ((iI_add _ _).trans (congrArg iI (by omega))) (by decide) rfl (fun ls hl => ?_)
      refine lv_goto (tgt := 3) hx hb d_Tape_append_45 (by decide) ?_
      have hl : lv_has ls 3 [(2, .int (iI 16)), (0, .ref tp), (1, .int xx)] := hl
      refine lv_iload_n hx hb d_Tape_append_3 rfl (lv_at hl 0 rfl) ?_
      refine ri_if_lt (tgt := 48) hx hb d_Tape_append_4 (by decide) (fun h4 => ?_) (fun h4 => ?_)
      · exfalso; omega
      · refine lv_aload_n hx hb d_Tape_append_7 rfl (lv_at hl 1 rfl) ?_
        refine g_get hx hb hk hown hK hP 0 rfl f_Tape_15 rfl d_Tape_append_8 ?_
        refine lv_aload_n hx hb d_Tape_append_11 rfl (lv_at hl 1 rfl) ?_
        refine g_get hx hb hk hown hK hP 0 rfl f_Tape_9 rfl d_Tape_append_12 ?_
        refine va_alen hx hb hK hP 1 0 rfl hty (v := iI 400) (show Int32.ofNat 400 = iI 400 from by decide) d_Tape_append_15 ?_
        refine ri_icmp_ge (tgt := 48) hx hb d_Tape_append_16 (by decide) (fun h16 => ?_) (fun h16 => ?_)
        · exfalso; omega
        · refine lv_aload_n hx hb d_Tape_append_19 rfl (lv_at hl 1 rfl) ?_
          refine g_get hx hb hk hown hK hP 0 rfl f_Tape_9 rfl d_Tape_append_20 ?_
          refine lv_aload_n hx hb d_Tape_append_23 rfl (lv_at hl 1 rfl) ?_
          refine g_get hx hb hk hown hK hP 0 rfl f_Tape_15 rfl d_Tape_append_24 ?_
          refine lv_iload_n hx hb d_Tape_append_27 rfl (lv_at hl 2 rfl) ?_
          refine lv_iload_n hx hb d_Tape_append_28 rfl (lv_at hl 0 rfl) ?_
          refine lv_ishr hx hb d_Tape_append_29 ?_
          refine lv_i2b (v := bs xx 16) hx hb d_Tape_append_30 rfl ?_
          refine g_bast (i := nn + 1) hx hb hK hP hD hS 1 0 rfl hty d_Tape_append_31 (fun H locs hP hD hS => ?_) (pk_vb _) (by omega) (by decide)
          have hP : va_P D vwCl [(tp, .inr (1, [.ref ba, .int (iI (((nn + 1 : Nat) : Int))), .int (iI ((i : Int))), .int (iI (bI bk))])), (ba, .inl (cB, 400, .inl (upd (upd f nn (bs xx 24)) (nn + 1) (bs xx 16))))] H := hP
          have hD : va_D (wA [(tp, .inr (1, [.ref ba, .int (iI ((nn : Int))), .int (iI ((i : Int))), .int (iI (bI bk))])), (ba, .inl (cB, 400, .inl f))]) [(tp, .inr (1, [.ref ba, .int (iI (((nn + 1 : Nat) : Int))), .int (iI ((i : Int))), .int (iI (bI bk))])), (ba, .inl (cB, 400, .inl (upd (upd f nn (bs xx 24)) (nn + 1) (bs xx 16))))] := hD
          refine lv_aload_n hx hb d_Tape_append_32 rfl (lv_at hl 1 rfl) ?_
          refine lv_dup hx hb d_Tape_append_33 rfl ?_
          refine g_get hx hb hk hown hK hP 0 rfl f_Tape_15 rfl d_Tape_append_34 ?_
          refine lv_iconst (v := iI 1) hx hb d_Tape_append_37 rfl ?_
          refine ri_iadd hx hb d_Tape_append_38 ?_
          refine ri_i (show (((nn + 1 : Nat) : Int)) + 1 = ((nn + 2 : Nat) : Int) from by omega) ?_
          refine g_put hx hb hk hown hK hP hD hS 0 rfl f_Tape_15 fT_Tape rfl (rfl) rfl (Nat.le_of_ble_eq_true rfl) d_Tape_append_39 (fun H locs hP hD hS => ?_)
          have hP : va_P D vwCl [(tp, .inr (1, [.ref ba, .int (iI (((nn + 2 : Nat) : Int))), .int (iI ((i : Int))), .int (iI (bI bk))])), (ba, .inl (cB, 400, .inl (upd (upd f nn (bs xx 24)) (nn + 1) (bs xx 16))))] H := hP
          have hD : va_D (wA [(tp, .inr (1, [.ref ba, .int (iI ((nn : Int))), .int (iI ((i : Int))), .int (iI (bI bk))])), (ba, .inl (cB, 400, .inl f))]) [(tp, .inr (1, [.ref ba, .int (iI (((nn + 2 : Nat) : Int))), .int (iI ((i : Int))), .int (iI (bI bk))])), (ba, .inl (cB, 400, .inl (upd (upd f nn (bs xx 24)) (nn + 1) (bs xx 16))))] := hD
          refine lv_iinc (k := 0) (v := iI (16 - 8)) (lv' := [(2, .int (iI (16 - 8))), (0, .ref tp), (1, .int xx)]) hx hb d_Tape_append_42 hl rfl ((iI_add _ _).trans (congrArg iI (by omega))) (by decide) rfl (fun ls hl => ?_)
          refine lv_goto (tgt := 3) hx hb d_Tape_append_45 (by decide) ?_
          have hl : lv_has ls 3 [(2, .int (iI 8)), (0, .ref tp), (1, .int xx)] := hl
          refine lv_iload_n hx hb d_Tape_append_3 rfl (lv_at hl 0 rfl) ?_
          refine ri_if_lt (tgt := 48) hx hb d_Tape_append_4 (by decide) (fun h4 => ?_) (fun h4 => ?_)
          · exfalso; omega
          · refine lv_aload_n hx hb d_Tape_append_7 rfl (lv_at hl 1 rfl) ?_
            refine g_get hx hb hk hown hK hP 0 rfl f_Tape_15 rfl d_Tape_append_8 ?_
            refine lv_aload_n hx hb d_Tape_append_11 rfl (lv_at hl 1 rfl) ?_
            refine g_get hx hb hk hown hK hP 0 rfl f_Tape_9 rfl d_Tape_append_12 ?_
            refine va_alen hx hb hK hP 1 0 rfl hty (v := iI 400) (show Int32.ofNat 400 = iI 400 from by decide) d_Tape_append_15 ?_
            refine ri_icmp_ge (tgt := 48) hx hb d_Tape_append_16 (by decide) (fun h16 => ?_) (fun h16 => ?_)
            · exfalso; omega
            · refine lv_aload_n hx hb d_Tape_append_19 rfl (lv_at hl 1 rfl) ?_
              refine g_get hx hb hk hown hK hP 0 rfl f_Tape_9 rfl d_Tape_append_20 ?_
              refine lv_aload_n hx hb d_Tape_append_23 rfl (lv_at hl 1 rfl) ?_
              refine g_get hx hb hk hown hK hP 0 rfl f_Tape_15 rfl d_Tape_append_24 ?_
              refine lv_iload_n hx hb d_Tape_append_27 rfl (lv_at hl 2 rfl) ?_
              refine lv_iload_n hx hb d_Tape_append_28 rfl (lv_at hl 0 rfl) ?_
              refine lv_ishr hx hb d_Tape_append_29 ?_
              refine lv_i2b (v := bs xx 8) hx hb d_Tape_append_30 rfl ?_
              refine g_bast (i := nn + 2) hx hb hK hP hD hS 1 0 rfl hty d_Tape_append_31 (fun H locs hP hD hS => ?_) (pk_vb _) (by omega) (by decide)
              have hP : va_P D vwCl [(tp, .inr (1, [.ref ba, .int (iI (((nn + 2 : Nat) : Int))), .int (iI ((i : Int))), .int (iI (bI bk))])), (ba, .inl (cB, 400, .inl (upd (upd (upd f nn (bs xx 24)) (nn + 1) (bs xx 16)) (nn + 2) (bs xx 8))))] H := hP
              have hD : va_D (wA [(tp, .inr (1, [.ref ba, .int (iI ((nn : Int))), .int (iI ((i : Int))), .int (iI (bI bk))])), (ba, .inl (cB, 400, .inl f))]) [(tp, .inr (1, [.ref ba, .int (iI (((nn + 2 : Nat) : Int))), .int (iI ((i : Int))), .int (iI (bI bk))])), (ba, .inl (cB, 400, .inl (upd (upd (upd f nn (bs xx 24)) (nn + 1) (bs xx 16)) (nn + 2) (bs xx 8))))] := hD
              refine lv_aload_n hx hb d_Tape_append_32 rfl (lv_at hl 1 rfl) ?_
              refine lv_dup hx hb d_Tape_append_33 rfl ?_
              refine g_get hx hb hk hown hK hP 0 rfl f_Tape_15 rfl d_Tape_append_34 ?_
              refine lv_iconst (v := iI 1) hx hb d_Tape_append_37 rfl ?_
              refine ri_iadd hx hb d_Tape_append_38 ?_
              refine ri_i (show (((nn + 2 : Nat) : Int)) + 1 = ((nn + 3 : Nat) : Int) from by omega) ?_
              refine g_put hx hb hk hown hK hP hD hS 0 rfl f_Tape_15 fT_Tape rfl (rfl) rfl (Nat.le_of_ble_eq_true rfl) d_Tape_append_39 (fun H locs hP hD hS => ?_)
              have hP : va_P D vwCl [(tp, .inr (1, [.ref ba, .int (iI (((nn + 3 : Nat) : Int))), .int (iI ((i : Int))), .int (iI (bI bk))])), (ba, .inl (cB, 400, .inl (upd (upd (upd f nn (bs xx 24)) (nn + 1) (bs xx 16)) (nn + 2) (bs xx 8))))] H := hP
              have hD : va_D (wA [(tp, .inr (1, [.ref ba, .int (iI ((nn : Int))), .int (iI ((i : Int))), .int (iI (bI bk))])), (ba, .inl (cB, 400, .inl f))]) [(tp, .inr (1, [.ref ba, .int (iI (((nn + 3 : Nat) : Int))), .int (iI ((i : Int))), .int (iI (bI bk))])), (ba, .inl (cB, 400, .inl (upd (upd (upd f nn (bs xx 24)) (nn + 1) (bs xx 16)) (nn + 2) (bs xx 8))))] := hD
              refine lv_iinc (k := 0) (v := iI (8 - 8)) (lv' := [(2, .int (iI (8 - 8))), (0, .ref tp), (1, .int xx)]) hx hb d_Tape_append_42 hl rfl ((iI_add _ _).trans (congrArg iI (by omega))) (by decide) rfl (fun ls hl => ?_)
              refine lv_goto (tgt := 3) hx hb d_Tape_append_45 (by decide) ?_
              have hl : lv_has ls 3 [(2, .int (iI 0)), (0, .ref tp), (1, .int xx)] := hl
              refine lv_iload_n hx hb d_Tape_append_3 rfl (lv_at hl 0 rfl) ?_
              refine ri_if_lt (tgt := 48) hx hb d_Tape_append_4 (by decide) (fun h4 => ?_) (fun h4 => ?_)
              · exfalso; omega
              · refine lv_aload_n hx hb d_Tape_append_7 rfl (lv_at hl 1 rfl) ?_
                refine g_get hx hb hk hown hK hP 0 rfl f_Tape_15 rfl d_Tape_append_8 ?_
                refine lv_aload_n hx hb d_Tape_append_11 rfl (lv_at hl 1 rfl) ?_
                refine g_get hx hb hk hown hK hP 0 rfl f_Tape_9 rfl d_Tape_append_12 ?_
                refine va_alen hx hb hK hP 1 0 rfl hty (v := iI 400) (show Int32.ofNat 400 = iI 400 from by decide) d_Tape_append_15 ?_
                refine ri_icmp_ge (tgt := 48) hx hb d_Tape_append_16 (by decide) (fun h16 => ?_) (fun h16 => ?_)
                · exfalso; omega
                · refine lv_aload_n hx hb d_Tape_append_19 rfl (lv_at hl 1 rfl) ?_
                  refine g_get hx hb hk hown hK hP 0 rfl f_Tape_9 rfl d_Tape_append_20 ?_
                  refine lv_aload_n hx hb d_Tape_append_23 rfl (lv_at hl 1 rfl) ?_
                  refine g_get hx hb hk hown hK hP 0 rfl f_Tape_15 rfl d_Tape_append_24 ?_
                  refine lv_iload_n hx hb d_Tape_append_27 rfl (lv_at hl 2 rfl) ?_
                  refine lv_iload_n hx hb d_Tape_append_28 rfl (lv_at hl 0 rfl) ?_
                  refine lv_ishr hx hb d_Tape_append_29 ?_
                  refine lv_i2b (v := bs xx 0) hx hb d_Tape_append_30 rfl ?_
                  refine g_bast (i := nn + 3) hx hb hK hP hD hS 1 0 rfl hty d_Tape_append_31 (fun H locs hP hD hS => ?_) (pk_vb _) (by omega) (by decide)
                  have hP : va_P D vwCl [(tp, .inr (1, [.ref ba, .int (iI (((nn + 3 : Nat) : Int))), .int (iI ((i : Int))), .int (iI (bI bk))])), (ba, .inl (cB, 400, .inl (upd (upd (upd (upd f nn (bs xx 24)) (nn + 1) (bs xx 16)) (nn + 2) (bs xx 8)) (nn + 3) (bs xx 0))))] H := hP
                  have hD : va_D (wA [(tp, .inr (1, [.ref ba, .int (iI ((nn : Int))), .int (iI ((i : Int))), .int (iI (bI bk))])), (ba, .inl (cB, 400, .inl f))]) [(tp, .inr (1, [.ref ba, .int (iI (((nn + 3 : Nat) : Int))), .int (iI ((i : Int))), .int (iI (bI bk))])), (ba, .inl (cB, 400, .inl (upd (upd (upd (upd f nn (bs xx 24)) (nn + 1) (bs xx 16)) (nn + 2) (bs xx 8)) (nn + 3) (bs xx 0))))] := hD
                  refine lv_aload_n hx hb d_Tape_append_32 rfl (lv_at hl 1 rfl) ?_
                  refine lv_dup hx hb d_Tape_append_33 rfl ?_
                  refine g_get hx hb hk hown hK hP 0 rfl f_Tape_15 rfl d_Tape_append_34 ?_
                  refine lv_iconst (v := iI 1) hx hb d_Tape_append_37 rfl ?_
                  refine ri_iadd hx hb d_Tape_append_38 ?_
                  refine ri_i (show (((nn + 3 : Nat) : Int)) + 1 = ((nn + 4 : Nat) : Int) from by omega) ?_
                  refine g_put hx hb hk hown hK hP hD hS 0 rfl f_Tape_15 fT_Tape rfl (rfl) rfl (Nat.le_of_ble_eq_true rfl) d_Tape_append_39 (fun H locs hP hD hS => ?_)
                  have hP : va_P D vwCl [(tp, .inr (1, [.ref ba, .int (iI (((nn + 4 : Nat) : Int))), .int (iI ((i : Int))), .int (iI (bI bk))])), (ba, .inl (cB, 400, .inl (upd (upd (upd (upd f nn (bs xx 24)) (nn + 1) (bs xx 16)) (nn + 2) (bs xx 8)) (nn + 3) (bs xx 0))))] H := hP
                  have hD : va_D (wA [(tp, .inr (1, [.ref ba, .int (iI ((nn : Int))), .int (iI ((i : Int))), .int (iI (bI bk))])), (ba, .inl (cB, 400, .inl f))]) [(tp, .inr (1, [.ref ba, .int (iI (((nn + 4 : Nat) : Int))), .int (iI ((i : Int))), .int (iI (bI bk))])), (ba, .inl (cB, 400, .inl (upd (upd (upd (upd f nn (bs xx 24)) (nn + 1) (bs xx 16)) (nn + 2) (bs xx 8)) (nn + 3) (bs xx 0))))] := hD
                  refine lv_iinc (k := 0) (v := iI (0 - 8)) (lv' := [(2, .int (iI (0 - 8))), (0, .ref tp), (1, .int xx)]) hx hb d_Tape_append_42 hl rfl ((iI_add _ _).trans (congrArg iI (by omega))) (by decide) rfl (fun ls hl => ?_)
                  refine lv_goto (tgt := 3) hx hb d_Tape_append_45 (by decide) ?_
                  have hl : lv_has ls 3 [(2, .int (iI (-8))), (0, .ref tp), (1, .int xx)] := hl
                  refine lv_iload_n hx hb d_Tape_append_3 rfl (lv_at hl 0 rfl) ?_
                  refine ri_if_lt (tgt := 48) hx hb d_Tape_append_4 (by decide) (fun h4 => ?_) (fun h4 => ?_)
                  · exact m_vret hx hb hr hlk hP hS d_Tape_append_48 (by rfl)
                  · exfalso; omega
end
section
/-! Pure methods without an answer; the words of the exceptions; the answers of the class. -/
def pQ0 : Array Value → State → Outcome → State → Prop := fun _ st o t => o = .returned none ∧ t.heap = st.heap
def vMet (l : Launch) (y : MethodName) (cc : ByteArray) (n : Nat) (r : Option FieldType) (rm : Room) (D : va_G) (tys : List (ClassId × FieldType)) (av : List Value) (wc : va_W) : Prop :=
  Met l y [Cond.code y cc n r] rm (cPre D tys av wc) pQ0 0 0 (fun _ => False)
theorem vMet_of {l : Launch} {y : MethodName} {cc : ByteArray} {n : Nat} {r : Option FieldType} {rm : Room} {D : va_G} {tys : List (ClassId × FieldType)} {av : List Value} {wc : va_W} (hy : plainName y.cls = true) (hn : (lg_sl av).length ≤ n)
    (body : ∀ p e s m below meth c, p.tables.exec = Jvm.exec → c.code = cc → meth.sig.returnType = r → s.vm.findClass y.cls = some m.cls → meth.locks = false → c.maxLocals = n → tk s → va_K D vwCl tys s → va_P D vwCl wc s.heap → va_D (fun _ => True) wc →
      ∀ ls : Array Slot, lv_has ls n (lv_args 0 av) → W p l e rm s m av.toArray below meth c s.heap [] 0 0 (MQ below pQ0 av.toArray s 0 0 (fun _ => False)) (F0 m 0 ls [])) : vMet l y cc n r rm D tys av wc := by
  refine Met.ofW (cc := cc) (maxL := n) (ret := r) hy rfl ?_
  intro p e s m args below meth c s₁ B hml hv
  obtain ⟨rfl, h1, h2, h3, h4⟩ := hv
  have hl := lv_entry av (n := n) hn
  rw [lg_entry_eq]
  exact body p e s m below meth c B.exec B.bytes B.returns (findClass_of_methodNamed B.named) B.notSynchronized hml h1 h2 h3 h4 _ hl
section CV
variable {p : Program} {l : Launch} {e : Env} {R : Room} {s : State} {m : MethodId} {args : Array Value} {below : List Frame} {meth : Method} {c : Code} {H : Heap} {locs : List Loc} {cells slots : Nat} {Q : State → Prop}
variable {cc bytes : ByteArray} {pc maxL np ix : Nat} {ls : Array Slot} {rest st0 av : List Value} {a : Array Value} {own : String} {y : MethodName} {ret : Option FieldType} {rm : Room} {D : va_G} {tys : List (ClassId × FieldType)} {wc : va_W}
theorem p_vret (hx : p.tables.exec = Jvm.exec) (hb : c.code = cc) (hr : meth.sig.returnType = none) (hlk : meth.locks = false) (hdg : decode cc pc = .ok (.return_, 1)) :
    W p l e R s m args below meth c s.heap [] 0 0 (MQ below pQ0 args s 0 0 (fun _ => False)) (F0 m pc ls []) :=
  W.vret hx hb hr (fun t ht _ => ⟨rfl, ht⟩) (fun _ h => by cases h) hdg hlk
theorem v_run (hr : va_Run p l e R s m args below meth c H locs cells slots 0 0 (F0 m pc ls st0) rest (pQ0 a) (fun _ => False))
    (kk : W p l e R s m args below meth c H locs cells slots Q (F0 m (pc + 3) ls rest)) : W p l e R s m args below meth c H locs cells slots Q (F0 m pc ls st0) := by
  intro T hT X
  obtain ⟨v', st₀, t, T', L, h0, X', hL, e1, e2, ⟨hv, hp⟩, st⟩ := hr T hT X
  cases hv
  have hL0 : L = [] := List.eq_nil_iff_forall_not_mem.mpr (fun q hq => hL q hq)
  subst hL0
  rw [List.append_nil] at X'
  obtain ⟨t2, a1, b1⟩ := kk T' (by rw [e1, hp, h0]) X'
  exact ⟨t2, st t2 a1, b1⟩
theorem v_callS (hx : p.tables.exec = Jvm.exec) (hb : c.code = cc) (hml : c.maxLocals = ls.size) (hown : s.vm.findClass own = some m.cls) (hk : tk s) (hK : va_K D vwCl tys s) (K : kS own ix y bytes maxL ret np) (hM : vMet l y bytes maxL ret rm D tys av wc)
    (hP : va_P D vwCl wc H) (hD : va_D (fun _ => True) wc) (hst : st0 = av.reverse ++ rest) (hav : av.length = np) (hrm : rm.cells = 0 ∧ rm.slots = 0) (hR : kR R rm maxL cells slots) (hcat : (rest.map fun v => v.category).sum ≤ 8) (hdg : decode cc pc = .ok (.invokestatic ix, 3))
    (kk : W p l e R s m args below meth c H locs cells slots Q (F0 m (pc + 3) ls rest)) : W p l e R s m args below meth c H locs cells slots Q (F0 m pc ls st0) := by
  obtain ⟨k1, k2, k3, k4, k5⟩ := K
  obtain ⟨r1, r2, r3, r4⟩ := hR
  rw [hrm.1] at r3
  rw [hrm.2] at r4
  exact v_run (a := av.toArray) (va_runS (Ts := []) ⟨hx, hb, hml, hown, fun w h => by cases h⟩ hM ⟨⟨hrm.1, hrm.2, r1, r2, k_ws hk k4, List.mem_cons_self, hk _ k4 args, hk _ k3 args, ⟨k5.1, k5.2.1⟩, k_len k5, hk _ k1 args⟩, hk _ k2 args⟩ ⟨cPre_blind, c_pre hk hK hP hD⟩ rfl hav rfl hst (lv_room hcat) hdg ⟨r3, r4⟩) kk
end CV
theorem x_zH {s : State} {H : Heap} {aS : Nat} {wc : va_W} {locs : List Loc} (hZ : xS aS s s.heap) (hS : va_S (wA wc) s.heap H locs) (hAS : ∀ q, wA wc q → q ≠ aS) : xS aS s H := hZ.kept (hS.2.1 aS hZ.2.2 (fun q => hAS aS q rfl))
theorem x_subD {W0 wc w : va_W} {aS : Nat} {is : List Nat} (hD : va_D (wA w) W0) (hAS : ∀ q, wA w q → q ≠ aS) (hC : is.map (fun i => W0[i]?) = wc.map some) (hn : va_nd is = true) : va_D (fun q => q ≠ aS) wc := (hD.sub is hn hC).weaken (fun _ q _ h => hAS q.1 h)
def xN2 : List String := ["java/lang/RuntimeException", "java/lang/Exception"]
theorem xw_Clk_34 : xWords R_Clk 34 36 "java/lang/IndexOutOfBoundsException" xN2 := ⟨by decide +kernel, by decide +kernel, by decide +kernel, by decide +kernel, by decide, by decide⟩
theorem xw_Clk_41 : xWords R_Clk 41 43 "java/lang/IllegalArgumentException" xN2 := ⟨by decide +kernel, by decide +kernel, by decide +kernel, by decide +kernel, by decide, by decide⟩
theorem xw_Clk_52 : xWords R_Clk 52 54 "java/lang/UnsupportedOperationException" xN2 := ⟨by decide +kernel, by decide +kernel, by decide +kernel, by decide +kernel, by decide, by decide⟩
theorem xw_Clk_76 : xWords R_Clk 76 78 "java/util/NoSuchElementException" xN2 := ⟨by decide +kernel, by decide +kernel, by decide +kernel, by decide +kernel, by decide, by decide⟩
theorem xw_Ref_75 : xWords R_Ref 75 77 "java/lang/UnsupportedOperationException" xN2 := ⟨by decide +kernel, by decide +kernel, by decide +kernel, by decide +kernel, by decide, by decide⟩
/-- the class's answers, of a zone and a time -/
def aIn (off sv : Int) (b e : RU) (t : Int) : Int := bI (cSum off sv b e (t - (off + sv) * 60000))
def aOut (off sv : Int) (b e : RU) (t : Int) : Int := bI (!cSum off sv b e (t - off * 60000))
def aUni (off sv : Int) (b e : RU) (t : Int) (lt : Bool) : Int := if aIn off sv b e t ≠ 0 ∧ ¬ (bI lt ≠ 0 ∧ aOut off sv b e t ≠ 0) then t - (off + sv) * 60000 else t - off * 60000
def aChg (off sv : Int) (b e : RU) (t : Int) (bk : Bool) : Int := cTell (if bI bk = 0 then cFwd off sv b e t else cBack off sv b e t)
def aFld (off sv : Int) (b e : RU) (t w : Int) : Int := if w = 8 then bI (cSum off sv b e t) else if w = 7 then cMin off sv b e t else cPart (t + cMin off sv b e t * 60000) w
theorem cBack_bd {off sv t : Int} {b1 b2 b3 b4 e1 e2 e3 e4 : Int} (go1 : -840 ≤ off) (go2 : off ≤ 840) (gs1 : 0 ≤ sv) (gs2 : sv ≤ 120) (gb : 0 < sv → rOk b1 b2 b3 b4) (ge : 0 < sv → rOk e1 e2 e3 e4) (gt1 : -60000000 ≤ t) (gt2 : t ≤ 10413900000000) :
    -2000000000000000 ≤ cBack off sv (b1, b2, b3, b4) (e1, e2, e3, e4) t ∧ cBack off sv (b1, b2, b3, b4) (e1, e2, e3, e4) t ≤ 2000000000000000 := by
  unfold cBack
  split
  · omega
  · have q1 := rLast_bd (gb (by omega)) (t := t) (sh := off) (by omega) (by omega) (by omega) (by omega)
    have q2 := rLast_bd (ge (by omega)) (t := t) (sh := off + sv) (by omega) (by omega) (by omega) (by omega)
    show -2000000000000000 ≤ max (rLast b1 b2 b3 b4 t off) (rLast e1 e2 e3 e4 t (off + sv)) ∧ max (rLast b1 b2 b3 b4 t off) (rLast e1 e2 e3 e4 t (off + sv)) ≤ 2000000000000000
    omega
theorem cFwd_bd {off sv t : Int} {b1 b2 b3 b4 e1 e2 e3 e4 : Int} (go1 : -840 ≤ off) (go2 : off ≤ 840) (gs1 : 0 ≤ sv) (gs2 : sv ≤ 120) (gb : 0 < sv → rOk b1 b2 b3 b4) (ge : 0 < sv → rOk e1 e2 e3 e4) (gt1 : -60000000 ≤ t) (gt2 : t ≤ 10413900000000) :
    -2000000000000000 ≤ cFwd off sv (b1, b2, b3, b4) (e1, e2, e3, e4) t ∧ cFwd off sv (b1, b2, b3, b4) (e1, e2, e3, e4) t ≤ 2000000000000000 := by
  unfold cFwd
  split
  · omega
  · have q1 := rNext_bd (gb (by omega)) (t := t) (sh := off) (by omega) (by omega) (by omega) (by omega)
    have q2 := rNext_bd (ge (by omega)) (t := t) (sh := off + sv) (by omega) (by omega) (by omega) (by omega)
    show -2000000000000000 ≤ min (rNext b1 b2 b3 b4 t off) (rNext e1 e2 e3 e4 t (off + sv)) ∧ min (rNext b1 b2 b3 b4 t off) (rNext e1 e2 e3 e4 t (off + sv)) ≤ 2000000000000000
    omega
theorem cMin_bd {off sv : Int} {b e : RU} {t : Int} (go1 : -840 ≤ off) (go2 : off ≤ 840) (gs1 : 0 ≤ sv) (gs2 : sv ≤ 120) : -840 ≤ cMin off sv b e t ∧ cMin off sv b e t ≤ 960 := by
  unfold cMin; split <;> omega
end
section
/-! Contracts: ZoneClock's methods that only read, and their refusals. By program (wip/whole/m_clk.py). -/
abbrev rm_Clk_place : Room := { frames := 0, cells := 0, slots := 0, locals := 0 }
set_option maxHeartbeats 4000000 in
set_option maxRecDepth 100000 in
theorem ct_Clk_place (l : Launch) (D : va_G) (tys : List (ClassId × FieldType)) (x : Nat) (tp : Nat) (dr : Nat) (za : Nat) (bp : Int) (cZ : ClassId) (aZ : Nat → Nat)  : pMet l y_Clk_place c_Clk_place 1 (some .int) rm_Clk_place D tys [.ref x] [(x, .inr (3, [.ref tp, .ref dr, .ref za, .int (iI bp)]))] (.int (iI bp)) := by
  refine pMet_of (by decide) (Nat.le_of_ble_eq_true rfl) ?_
  intro p e s m below meth c hx hb hr hown hlk hml hk hK hP hD ls hl
  have hl : lv_has ls 1 [(0, .ref x)] := hl
  refine lv_aload_n hx hb d_Clk_place_0 rfl (lv_at hl 0 rfl) ?_
  refine g_get hx hb hk hown hK hP 0 rfl f_Clk_27 rfl d_Clk_place_1 ?_
  exact p_iret hx hb hr hlk d_Clk_place_4 (by rfl)
abbrev rm_Clk_zoneAt : Room := { frames := 0, cells := 0, slots := 0, locals := 0 }
set_option maxHeartbeats 4000000 in
set_option maxRecDepth 100000 in
theorem ct_Clk_zoneAt (l : Launch) (D : va_G) (tys : List (ClassId × FieldType)) (x : Nat) (tp : Nat) (dr : Nat) (za : Nat) (bp : Int) (cZ : ClassId) (aZ : Nat → Nat) (zi : Nat) (htz : tys[4]? = some (cZ, .object "ZoneClock$Zone")) (gz : zi < 8) : pMet l y_Clk_zoneAt c_Clk_zoneAt 2 (some (.object "ZoneClock$Zone")) rm_Clk_zoneAt D tys [.ref x, .int (iI ((zi : Int)))] [(x, .inr (3, [.ref tp, .ref dr, .ref za, .int (iI bp)])), (za, .inl (cZ, 8, .inr (.inr (.inr (.inr (fun k => some (aZ k)))))))] (.ref (aZ zi)) := by
  refine pMet_of (by decide) (Nat.le_of_ble_eq_true rfl) ?_
  intro p e s m below meth c hx hb hr hown hlk hml hk hK hP hD ls hl
  have hl : lv_has ls 2 [(0, .ref x), (1, .int (iI ((zi : Int))))] := hl
  refine lv_iload_n hx hb d_Clk_zoneAt_0 rfl (lv_at hl 1 rfl) ?_
  refine ri_if_lt (tgt := 13) hx hb d_Clk_zoneAt_1 (by decide) (fun h1 => ?_) (fun h1 => ?_)
  · exfalso; omega
  · refine lv_iload_n hx hb d_Clk_zoneAt_4 rfl (lv_at hl 1 rfl) ?_
    refine lv_aload_n hx hb d_Clk_zoneAt_5 rfl (lv_at hl 0 rfl) ?_
    refine g_get hx hb hk hown hK hP 0 rfl f_Clk_23 rfl d_Clk_zoneAt_6 ?_
    refine va_alen hx hb hK hP 1 4 rfl htz (v := iI 8) (show Int32.ofNat 8 = iI 8 from by decide) d_Clk_zoneAt_9 ?_
    refine ri_icmp_lt (tgt := 21) hx hb d_Clk_zoneAt_10 (by decide) (fun h10 => ?_) (fun h10 => ?_)
    · refine lv_aload_n hx hb d_Clk_zoneAt_21 rfl (lv_at hl 0 rfl) ?_
      refine g_get hx hb hk hown hK hP 0 rfl f_Clk_23 rfl d_Clk_zoneAt_22 ?_
      refine lv_iload_n hx hb d_Clk_zoneAt_25 rfl (lv_at hl 1 rfl) ?_
      refine g_aald (i := zi) hx hb hK hP 1 4 rfl htz rfl (rfl) d_Clk_zoneAt_26 ?_
      exact p_aret hx hb hr hlk d_Clk_zoneAt_27
    · exfalso; omega
abbrev rm_Clk_zoneAt_x : Room := { frames := 6, cells := 1, slots := 6, locals := 100 }
set_option maxHeartbeats 4000000 in
set_option maxRecDepth 100000 in
theorem ct_Clk_zoneAt_x (l : Launch) (D : va_G) (tys : List (ClassId × FieldType)) (aS : Nat) (hoff : l.stackTraces = false) (x : Nat) (tp : Nat) (dr : Nat) (za : Nat) (bp : Int) (cZ : ClassId) (aZ : Nat → Nat) (z : Int) (htz : tys[4]? = some (cZ, .object "ZoneClock$Zone")) (gz1 : -2147483648 ≤ z) (gz2 : z ≤ 2147483647) (gz : z < 0 ∨ 8 ≤ z) : xMet l y_Clk_zoneAt c_Clk_zoneAt 2 (some (.object "ZoneClock$Zone")) rm_Clk_zoneAt_x D tys aS [.ref x, .int (iI z)] [(x, .inr (3, [.ref tp, .ref dr, .ref za, .int (iI bp)])), (za, .inl (cZ, 8, .inr (.inr (.inr (.inr (fun k => some (aZ k)))))))] none "java/lang/IllegalArgumentException" [(x, .inr (3, [.ref tp, .ref dr, .ref za, .int (iI bp)])), (za, .inl (cZ, 8, .inr (.inr (.inr (.inr (fun k => some (aZ k)))))))] := by
  refine xMet_of (by decide) (Nat.le_of_ble_eq_true rfl) ?_
  intro p e s m below meth c hx hb hr hown hlk hml hE hk hK hP hD hS hAS hZ ls hl
  have hl : lv_has ls 2 [(0, .ref x), (1, .int (iI z))] := hl
  refine lv_iload_n hx hb d_Clk_zoneAt_0 rfl (lv_at hl 1 rfl) ?_
  refine ri_if_lt (tgt := 13) hx hb d_Clk_zoneAt_1 (by decide) (fun h1 => ?_) (fun h1 => ?_)
  · exact x_throw (rest := []) hx hb hlk (hml.trans hl.1.symm) hE hown hk hoff xw_Clk_41 hP hS hAS hZ d_Clk_zoneAt_13 d_Clk_zoneAt_16 d_Clk_zoneAt_17 d_Clk_zoneAt_20 (by rfl) rfl ⟨by decide, by decide, by decide, by decide⟩
  · refine lv_iload_n hx hb d_Clk_zoneAt_4 rfl (lv_at hl 1 rfl) ?_
    refine lv_aload_n hx hb d_Clk_zoneAt_5 rfl (lv_at hl 0 rfl) ?_
    refine g_get hx hb hk hown hK hP 0 rfl f_Clk_23 rfl d_Clk_zoneAt_6 ?_
    refine va_alen hx hb hK hP 1 4 rfl htz (v := iI 8) (show Int32.ofNat 8 = iI 8 from by decide) d_Clk_zoneAt_9 ?_
    refine ri_icmp_lt (tgt := 21) hx hb d_Clk_zoneAt_10 (by decide) (fun h10 => ?_) (fun h10 => ?_)
    · exfalso; omega
    · exact x_throw (rest := []) hx hb hlk (hml.trans hl.1.symm) hE hown hk hoff xw_Clk_41 hP hS hAS hZ d_Clk_zoneAt_13 d_Clk_zoneAt_16 d_Clk_zoneAt_17 d_Clk_zoneAt_20 (by rfl) rfl ⟨by decide, by decide, by decide, by decide⟩
abbrev rm_Clk_checkTime : Room := { frames := 0, cells := 0, slots := 0, locals := 0 }
set_option maxHeartbeats 4000000 in
set_option maxRecDepth 100000 in
theorem ct_Clk_checkTime (l : Launch) (D : va_G) (tys : List (ClassId × FieldType)) (t : Int) (gt1 : 0 ≤ t) (gt2 : t ≤ 10413791999999) : vMet l y_Clk_checkTime c_Clk_checkTime 2 none rm_Clk_checkTime D tys [.long (lL t)] [] := by
  refine vMet_of (by decide) (Nat.le_of_ble_eq_true rfl) ?_
  intro p e s m below meth c hx hb hr hown hlk hml hk hK hP hD ls hl
  have hl : lv_has ls 2 [(0, .long (lL t))] := hl
  refine lv_lload_n hx hb d_Clk_checkTime_0 rfl (lv_at hl 0 rfl) ?_
  refine lv_lconst (v := lL 0) hx hb d_Clk_checkTime_1 (by decide) ?_
  refine ri_lcmp_lt (tgt := 14) hx hb d_Clk_checkTime_2 d_Clk_checkTime_3 (by decide) (fun h2 => ?_) (fun h2 => ?_)
  · exfalso; omega
  · refine lv_lload_n hx hb d_Clk_checkTime_6 rfl (lv_at hl 0 rfl) ?_
    refine lv_ldc2 (v := lL 10413791999999) hx hb hown (hk _ kc_Clk_105 _) d_Clk_checkTime_7 ?_
    refine ri_lcmp_le (tgt := 22) hx hb d_Clk_checkTime_10 d_Clk_checkTime_11 (by decide) (fun h10 => ?_) (fun h10 => ?_)
    · exact p_vret hx hb hr hlk d_Clk_checkTime_22
    · exfalso; omega
abbrev rm_Clk_checkTime_x : Room := { frames := 6, cells := 1, slots := 6, locals := 100 }
set_option maxHeartbeats 4000000 in
set_option maxRecDepth 100000 in
theorem ct_Clk_checkTime_x (l : Launch) (D : va_G) (tys : List (ClassId × FieldType)) (aS : Nat) (hoff : l.stackTraces = false) (t : Int) (gi1 : -9223372036854775808 ≤ t) (gi2 : t ≤ 9223372036854775807) (gt : t < 0 ∨ 10413791999999 < t) : xMet l y_Clk_checkTime c_Clk_checkTime 2 none rm_Clk_checkTime_x D tys aS [.long (lL t)] [] none "java/lang/IllegalArgumentException" [] := by
  refine xMet_of (by decide) (Nat.le_of_ble_eq_true rfl) ?_
  intro p e s m below meth c hx hb hr hown hlk hml hE hk hK hP hD hS hAS hZ ls hl
  have hl : lv_has ls 2 [(0, .long (lL t))] := hl
  refine lv_lload_n hx hb d_Clk_checkTime_0 rfl (lv_at hl 0 rfl) ?_
  refine lv_lconst (v := lL 0) hx hb d_Clk_checkTime_1 (by decide) ?_
  refine ri_lcmp_lt (tgt := 14) hx hb d_Clk_checkTime_2 d_Clk_checkTime_3 (by decide) (fun h2 => ?_) (fun h2 => ?_)
  · exact x_throw (rest := []) hx hb hlk (hml.trans hl.1.symm) hE hown hk hoff xw_Clk_41 hP hS hAS hZ d_Clk_checkTime_14 d_Clk_checkTime_17 d_Clk_checkTime_18 d_Clk_checkTime_21 (by rfl) rfl ⟨by decide, by decide, by decide, by decide⟩
  · refine lv_lload_n hx hb d_Clk_checkTime_6 rfl (lv_at hl 0 rfl) ?_
    refine lv_ldc2 (v := lL 10413791999999) hx hb hown (hk _ kc_Clk_105 _) d_Clk_checkTime_7 ?_
    refine ri_lcmp_le (tgt := 22) hx hb d_Clk_checkTime_10 d_Clk_checkTime_11 (by decide) (fun h10 => ?_) (fun h10 => ?_)
    · exfalso; omega
    · exact x_throw (rest := []) hx hb hlk (hml.trans hl.1.symm) hE hown hk hoff xw_Clk_41 hP hS hAS hZ d_Clk_checkTime_14 d_Clk_checkTime_17 d_Clk_checkTime_18 d_Clk_checkTime_21 (by rfl) rfl ⟨by decide, by decide, by decide, by decide⟩
abbrev rm_Clk_local : Room := { frames := 6, cells := 0, slots := 0, locals := 141 }
set_option maxHeartbeats 4000000 in
set_option maxRecDepth 100000 in
theorem ct_Clk_local (l : Launch) (D : va_G) (tys : List (ClassId × FieldType)) (x : Nat) (tp : Nat) (dr : Nat) (za : Nat) (bp : Int) (cZ : ClassId) (aZ : Nat → Nat) (zi : Nat) (b0 : Nat) (e0 : Nat) (off : Int) (sv : Int) (b1 : Int) (b2 : Int) (b3 : Int) (b4 : Int) (e1 : Int) (e2 : Int) (e3 : Int) (e4 : Int) (t : Int) (htz : tys[4]? = some (cZ, .object "ZoneClock$Zone")) (gz : zi < 8) (go1 : -840 ≤ off) (go2 : off ≤ 840) (gs1 : 0 ≤ sv) (gs2 : sv ≤ 120) (gb : 0 < sv → rOk b1 b2 b3 b4) (ge : 0 < sv → rOk e1 e2 e3 e4) (gt1 : 0 ≤ t) (gt2 : t ≤ 10413791999999) : pMet l y_Clk_local c_Clk_local 5 (some .long) rm_Clk_local D tys [.ref x, .int (iI ((zi : Int))), .long (lL t)] [(x, .inr (3, [.ref tp, .ref dr, .ref za, .int (iI bp)])), (za, .inl (cZ, 8, .inr (.inr (.inr (.inr (fun k => some (aZ k))))))), (aZ zi, .inr (2, [.int (iI off), .int (iI sv), .ref b0, .ref e0])), (b0, .inr (0, [.int (iI b1), .int (iI b2), .int (iI b3), .int (iI b4)])), (e0, .inr (0, [.int (iI e1), .int (iI e2), .int (iI e3), .int (iI e4)]))] (.long (lL (t + cMin off sv (b1, b2, b3, b4) (e1, e2, e3, e4) t * 60000))) := by
  refine pMet_of (by decide) (Nat.le_of_ble_eq_true rfl) ?_
  intro p e s m below meth c hx hb hr hown hlk hml hk hK hP hD ls hl
  have hl : lv_has ls 5 [(0, .ref x), (1, .int (iI ((zi : Int)))), (2, .long (lL t))] := hl
  have gm := cMin_bd (b := (b1, b2, b3, b4)) (e := (e1, e2, e3, e4)) (t := t) go1 go2 gs1 gs2
  refine lv_aload_n hx hb d_Clk_local_0 rfl (lv_at hl 0 rfl) ?_
  refine lv_iload_n hx hb d_Clk_local_1 rfl (lv_at hl 1 rfl) ?_
  refine p_callV (rest := []) (q0 := 0) hx hb (hml.trans hl.1.symm) hown hk hK k_Clk_44 (ct_Clk_zoneAt l D tys x tp dr za bp cZ aZ zi htz (by omega)) (w_subP (is := [0, 1]) hP rfl) (w_subD (is := [0, 1]) hD rfl rfl) rfl rfl rfl rfl ⟨rfl, rfl⟩ ⟨by decide, by decide, by decide, by decide⟩ (Nat.le_of_ble_eq_true rfl) d_Clk_local_2 ?_
  refine lv_astore (lv' := [(4, .ref (aZ zi)), (0, .ref x), (1, .int (iI ((zi : Int)))), (2, .long (lL t))]) hx hb d_Clk_local_5 hl (by decide) rfl (fun ls hl => ?_)
  refine lv_lload_n hx hb d_Clk_local_7 rfl (lv_at hl 3 rfl) ?_
  refine v_callS (rest := []) hx hb (hml.trans hl.1.symm) hown hk hK k_Clk_59 (ct_Clk_checkTime l D tys t (by omega) (by omega)) nil_P nil_D rfl rfl ⟨rfl, rfl⟩ ⟨by decide, by decide, by decide, by decide⟩ (Nat.le_of_ble_eq_true rfl) d_Clk_local_8 ?_
  refine lv_lload_n hx hb d_Clk_local_11 rfl (lv_at hl 3 rfl) ?_
  refine lv_aload hx hb d_Clk_local_12 (lv_at hl 0 rfl) ?_
  refine lv_lload_n hx hb d_Clk_local_14 rfl (lv_at hl 3 rfl) ?_
  refine p_callV (rest := [.long (lL t)]) (q0 := 0) hx hb (hml.trans hl.1.symm) hown hk hK k_Clk_63 (ct_Zone_minutesAt l D tys (aZ zi) b0 e0 off sv b1 b2 b3 b4 e1 e2 e3 e4 t (by omega) (by omega) (by omega) (by omega) gb ge (by omega) (by omega)) (w_subP (is := [2, 3, 4]) hP rfl) (w_subD (is := [2, 3, 4]) hD rfl rfl) rfl rfl rfl rfl ⟨rfl, rfl⟩ ⟨by decide, by decide, by decide, by decide⟩ (Nat.le_of_ble_eq_true rfl) d_Clk_local_15 ?_
  refine ri_i2l hx hb d_Clk_local_18 ?_
  refine lv_ldc2 (v := lL 60000) hx hb hown (hk _ kc_Clk_67 _) d_Clk_local_19 ?_
  refine ri_lmul hx hb d_Clk_local_22 ?_
  refine ri_ladd hx hb d_Clk_local_23 ?_
  exact p_lret hx hb hr hlk d_Clk_local_24 (by rfl)
abbrev rm_Clk_many : Room := { frames := 6, cells := 0, slots := 0, locals := 141 }
set_option maxHeartbeats 4000000 in
set_option maxRecDepth 100000 in
theorem ct_Clk_many (l : Launch) (D : va_G) (tys : List (ClassId × FieldType)) (x : Nat) (tp : Nat) (dr : Nat) (za : Nat) (bp : Int) (cZ : ClassId) (aZ : Nat → Nat) (zi : Nat) (b0 : Nat) (e0 : Nat) (off : Int) (sv : Int) (b1 : Int) (b2 : Int) (b3 : Int) (b4 : Int) (e1 : Int) (e2 : Int) (e3 : Int) (e4 : Int) (t : Int) (htz : tys[4]? = some (cZ, .object "ZoneClock$Zone")) (gz : zi < 8) (go1 : -840 ≤ off) (go2 : off ≤ 840) (gs1 : 0 ≤ sv) (gs2 : sv ≤ 120) (gb : 0 < sv → rOk b1 b2 b3 b4) (ge : 0 < sv → rOk e1 e2 e3 e4) (gt1 : 0 ≤ t) (gt2 : t ≤ 10413791999999) : pMet l y_Clk_many c_Clk_many 7 (some .int) rm_Clk_many D tys [.ref x, .int (iI ((zi : Int))), .long (lL t)] [(x, .inr (3, [.ref tp, .ref dr, .ref za, .int (iI bp)])), (za, .inl (cZ, 8, .inr (.inr (.inr (.inr (fun k => some (aZ k))))))), (aZ zi, .inr (2, [.int (iI off), .int (iI sv), .ref b0, .ref e0])), (b0, .inr (0, [.int (iI b1), .int (iI b2), .int (iI b3), .int (iI b4)])), (e0, .inr (0, [.int (iI e1), .int (iI e2), .int (iI e3), .int (iI e4)]))] (.int (iI (aIn off sv (b1, b2, b3, b4) (e1, e2, e3, e4) t + aOut off sv (b1, b2, b3, b4) (e1, e2, e3, e4) t))) := by
  refine pMet_of (by decide) (Nat.le_of_ble_eq_true rfl) ?_
  intro p e s m below meth c hx hb hr hown hlk hml hk hK hP hD ls hl
  have hl : lv_has ls 7 [(0, .ref x), (1, .int (iI ((zi : Int)))), (2, .long (lL t))] := hl
  have gI := bI_b (cSum off sv (b1, b2, b3, b4) (e1, e2, e3, e4) (t - (off + sv) * 60000))
  have gO := bI_b (!cSum off sv (b1, b2, b3, b4) (e1, e2, e3, e4) (t - off * 60000))
  refine lv_aload_n hx hb d_Clk_many_0 rfl (lv_at hl 0 rfl) ?_
  refine lv_iload_n hx hb d_Clk_many_1 rfl (lv_at hl 1 rfl) ?_
  refine p_callV (rest := []) (q0 := 0) hx hb (hml.trans hl.1.symm) hown hk hK k_Clk_44 (ct_Clk_zoneAt l D tys x tp dr za bp cZ aZ zi htz (by omega)) (w_subP (is := [0, 1]) hP rfl) (w_subD (is := [0, 1]) hD rfl rfl) rfl rfl rfl rfl ⟨rfl, rfl⟩ ⟨by decide, by decide, by decide, by decide⟩ (Nat.le_of_ble_eq_true rfl) d_Clk_many_2 ?_
  refine lv_astore (lv' := [(4, .ref (aZ zi)), (0, .ref x), (1, .int (iI ((zi : Int)))), (2, .long (lL t))]) hx hb d_Clk_many_5 hl (by decide) rfl (fun ls hl => ?_)
  refine lv_lload_n hx hb d_Clk_many_7 rfl (lv_at hl 3 rfl) ?_
  refine v_callS (rest := []) hx hb (hml.trans hl.1.symm) hown hk hK k_Clk_59 (ct_Clk_checkTime l D tys t (by omega) (by omega)) nil_P nil_D rfl rfl ⟨rfl, rfl⟩ ⟨by decide, by decide, by decide, by decide⟩ (Nat.le_of_ble_eq_true rfl) d_Clk_many_8 ?_
  refine lv_aload hx hb d_Clk_many_11 (lv_at hl 0 rfl) ?_
  refine lv_lload_n hx hb d_Clk_many_13 rfl (lv_at hl 3 rfl) ?_
  refine p_callV (rest := []) (q0 := 0) hx hb (hml.trans hl.1.symm) hown hk hK k_Clk_69 (ct_Zone_isReadInSummer l D tys (aZ zi) b0 e0 off sv b1 b2 b3 b4 e1 e2 e3 e4 t (by omega) (by omega) (by omega) (by omega) gb ge (by omega) (by omega)) (w_subP (is := [2, 3, 4]) hP rfl) (w_subD (is := [2, 3, 4]) hD rfl rfl) rfl rfl rfl rfl ⟨rfl, rfl⟩ ⟨by decide, by decide, by decide, by decide⟩ (Nat.le_of_ble_eq_true rfl) d_Clk_many_14 ?_
  refine ri_if_eq (tgt := 24) hx hb d_Clk_many_17 (by decide) (fun h17 => ?_) (fun h17 => ?_)
  · refine lv_iconst (v := iI 0) hx hb d_Clk_many_24 rfl ?_
    refine lv_istore (lv' := [(5, .int (iI 0)), (4, .ref (aZ zi)), (0, .ref x), (1, .int (iI ((zi : Int)))), (2, .long (lL t))]) hx hb d_Clk_many_25 hl (by decide) rfl (fun ls hl => ?_)
    refine lv_aload hx hb d_Clk_many_27 (lv_at hl 1 rfl) ?_
    refine lv_lload_n hx hb d_Clk_many_29 rfl (lv_at hl 4 rfl) ?_
    refine p_callV (rest := []) (q0 := 0) hx hb (hml.trans hl.1.symm) hown hk hK k_Clk_73 (ct_Zone_isReadOutsideSummer l D tys (aZ zi) b0 e0 off sv b1 b2 b3 b4 e1 e2 e3 e4 t (by omega) (by omega) (by omega) (by omega) gb ge (by omega) (by omega)) (w_subP (is := [2, 3, 4]) hP rfl) (w_subD (is := [2, 3, 4]) hD rfl rfl) rfl rfl rfl rfl ⟨rfl, rfl⟩ ⟨by decide, by decide, by decide, by decide⟩ (Nat.le_of_ble_eq_true rfl) d_Clk_many_30 ?_
    refine ri_if_eq (tgt := 40) hx hb d_Clk_many_33 (by decide) (fun h33 => ?_) (fun h33 => ?_)
    · refine lv_iconst (v := iI 0) hx hb d_Clk_many_40 rfl ?_
      refine lv_istore (lv' := [(6, .int (iI 0)), (5, .int (iI 0)), (4, .ref (aZ zi)), (0, .ref x), (1, .int (iI ((zi : Int)))), (2, .long (lL t))]) hx hb d_Clk_many_41 hl (by decide) rfl (fun ls hl => ?_)
      refine lv_iload hx hb d_Clk_many_43 (lv_at hl 1 rfl) ?_
      refine lv_iload hx hb d_Clk_many_45 (lv_at hl 0 rfl) ?_
      refine ri_iadd hx hb d_Clk_many_47 ?_
      exact p_iret hx hb hr hlk d_Clk_many_48 (by unfold aIn aOut; omega)
    · refine lv_iconst (v := iI 1) hx hb d_Clk_many_36 rfl ?_
      refine lv_goto (tgt := 41) hx hb d_Clk_many_37 (by decide) ?_
      refine lv_istore (lv' := [(6, .int (iI 1)), (5, .int (iI 0)), (4, .ref (aZ zi)), (0, .ref x), (1, .int (iI ((zi : Int)))), (2, .long (lL t))]) hx hb d_Clk_many_41 hl (by decide) rfl (fun ls hl => ?_)
      refine lv_iload hx hb d_Clk_many_43 (lv_at hl 1 rfl) ?_
      refine lv_iload hx hb d_Clk_many_45 (lv_at hl 0 rfl) ?_
      refine ri_iadd hx hb d_Clk_many_47 ?_
      exact p_iret hx hb hr hlk d_Clk_many_48 (by unfold aIn aOut; omega)
  · refine lv_iconst (v := iI 1) hx hb d_Clk_many_20 rfl ?_
    refine lv_goto (tgt := 25) hx hb d_Clk_many_21 (by decide) ?_
    refine lv_istore (lv' := [(5, .int (iI 1)), (4, .ref (aZ zi)), (0, .ref x), (1, .int (iI ((zi : Int)))), (2, .long (lL t))]) hx hb d_Clk_many_25 hl (by decide) rfl (fun ls hl => ?_)
    refine lv_aload hx hb d_Clk_many_27 (lv_at hl 1 rfl) ?_
    refine lv_lload_n hx hb d_Clk_many_29 rfl (lv_at hl 4 rfl) ?_
    refine p_callV (rest := []) (q0 := 0) hx hb (hml.trans hl.1.symm) hown hk hK k_Clk_73 (ct_Zone_isReadOutsideSummer l D tys (aZ zi) b0 e0 off sv b1 b2 b3 b4 e1 e2 e3 e4 t (by omega) (by omega) (by omega) (by omega) gb ge (by omega) (by omega)) (w_subP (is := [2, 3, 4]) hP rfl) (w_subD (is := [2, 3, 4]) hD rfl rfl) rfl rfl rfl rfl ⟨rfl, rfl⟩ ⟨by decide, by decide, by decide, by decide⟩ (Nat.le_of_ble_eq_true rfl) d_Clk_many_30 ?_
    refine ri_if_eq (tgt := 40) hx hb d_Clk_many_33 (by decide) (fun h33 => ?_) (fun h33 => ?_)
    · refine lv_iconst (v := iI 0) hx hb d_Clk_many_40 rfl ?_
      refine lv_istore (lv' := [(6, .int (iI 0)), (5, .int (iI 1)), (4, .ref (aZ zi)), (0, .ref x), (1, .int (iI ((zi : Int)))), (2, .long (lL t))]) hx hb d_Clk_many_41 hl (by decide) rfl (fun ls hl => ?_)
      refine lv_iload hx hb d_Clk_many_43 (lv_at hl 1 rfl) ?_
      refine lv_iload hx hb d_Clk_many_45 (lv_at hl 0 rfl) ?_
      refine ri_iadd hx hb d_Clk_many_47 ?_
      exact p_iret hx hb hr hlk d_Clk_many_48 (by unfold aIn aOut; omega)
    · refine lv_iconst (v := iI 1) hx hb d_Clk_many_36 rfl ?_
      refine lv_goto (tgt := 41) hx hb d_Clk_many_37 (by decide) ?_
      refine lv_istore (lv' := [(6, .int (iI 1)), (5, .int (iI 1)), (4, .ref (aZ zi)), (0, .ref x), (1, .int (iI ((zi : Int)))), (2, .long (lL t))]) hx hb d_Clk_many_41 hl (by decide) rfl (fun ls hl => ?_)
      refine lv_iload hx hb d_Clk_many_43 (lv_at hl 1 rfl) ?_
      refine lv_iload hx hb d_Clk_many_45 (lv_at hl 0 rfl) ?_
      refine ri_iadd hx hb d_Clk_many_47 ?_
      exact p_iret hx hb hr hlk d_Clk_many_48 (by unfold aIn aOut; omega)
abbrev rm_Clk_universal : Room := { frames := 6, cells := 0, slots := 0, locals := 141 }
set_option maxHeartbeats 4000000 in
set_option maxRecDepth 100000 in
theorem ct_Clk_universal (l : Launch) (D : va_G) (tys : List (ClassId × FieldType)) (x : Nat) (tp : Nat) (dr : Nat) (za : Nat) (bp : Int) (cZ : ClassId) (aZ : Nat → Nat) (zi : Nat) (b0 : Nat) (e0 : Nat) (off : Int) (sv : Int) (b1 : Int) (b2 : Int) (b3 : Int) (b4 : Int) (e1 : Int) (e2 : Int) (e3 : Int) (e4 : Int) (t : Int) (lt : Bool) (htz : tys[4]? = some (cZ, .object "ZoneClock$Zone")) (gz : zi < 8) (go1 : -840 ≤ off) (go2 : off ≤ 840) (gs1 : 0 ≤ sv) (gs2 : sv ≤ 120) (gb : 0 < sv → rOk b1 b2 b3 b4) (ge : 0 < sv → rOk e1 e2 e3 e4) (gt1 : 0 ≤ t) (gt2 : t ≤ 10413791999999) (gq : aIn off sv (b1, b2, b3, b4) (e1, e2, e3, e4) t + aOut off sv (b1, b2, b3, b4) (e1, e2, e3, e4) t ≠ 0) : pMet l y_Clk_universal c_Clk_universal 9 (some .long) rm_Clk_universal D tys [.ref x, .int (iI ((zi : Int))), .long (lL t), .int (iI (bI lt))] [(x, .inr (3, [.ref tp, .ref dr, .ref za, .int (iI bp)])), (za, .inl (cZ, 8, .inr (.inr (.inr (.inr (fun k => some (aZ k))))))), (aZ zi, .inr (2, [.int (iI off), .int (iI sv), .ref b0, .ref e0])), (b0, .inr (0, [.int (iI b1), .int (iI b2), .int (iI b3), .int (iI b4)])), (e0, .inr (0, [.int (iI e1), .int (iI e2), .int (iI e3), .int (iI e4)]))] (.long (lL (aUni off sv (b1, b2, b3, b4) (e1, e2, e3, e4) t lt))) := by
  refine pMet_of (by decide) (Nat.le_of_ble_eq_true rfl) ?_
  intro p e s m below meth c hx hb hr hown hlk hml hk hK hP hD ls hl
  have hl : lv_has ls 9 [(0, .ref x), (1, .int (iI ((zi : Int)))), (2, .long (lL t)), (4, .int (iI (bI lt)))] := hl
  have gI := bI_b (cSum off sv (b1, b2, b3, b4) (e1, e2, e3, e4) (t - (off + sv) * 60000))
  have gO := bI_b (!cSum off sv (b1, b2, b3, b4) (e1, e2, e3, e4) (t - off * 60000))
  have gL := bI_b lt
  unfold aIn aOut at gq
  refine lv_aload_n hx hb d_Clk_universal_0 rfl (lv_at hl 0 rfl) ?_
  refine lv_iload_n hx hb d_Clk_universal_1 rfl (lv_at hl 1 rfl) ?_
  refine p_callV (rest := []) (q0 := 0) hx hb (hml.trans hl.1.symm) hown hk hK k_Clk_44 (ct_Clk_zoneAt l D tys x tp dr za bp cZ aZ zi htz (by omega)) (w_subP (is := [0, 1]) hP rfl) (w_subD (is := [0, 1]) hD rfl rfl) rfl rfl rfl rfl ⟨rfl, rfl⟩ ⟨by decide, by decide, by decide, by decide⟩ (Nat.le_of_ble_eq_true rfl) d_Clk_universal_2 ?_
  refine lv_astore (lv' := [(5, .ref (aZ zi)), (0, .ref x), (1, .int (iI ((zi : Int)))), (2, .long (lL t)), (4, .int (iI (bI lt)))]) hx hb d_Clk_universal_5 hl (by decide) rfl (fun ls hl => ?_)
  refine lv_lload_n hx hb d_Clk_universal_7 rfl (lv_at hl 3 rfl) ?_
  refine v_callS (rest := []) hx hb (hml.trans hl.1.symm) hown hk hK k_Clk_59 (ct_Clk_checkTime l D tys t (by omega) (by omega)) nil_P nil_D rfl rfl ⟨rfl, rfl⟩ ⟨by decide, by decide, by decide, by decide⟩ (Nat.le_of_ble_eq_true rfl) d_Clk_universal_8 ?_
  refine lv_aload hx hb d_Clk_universal_11 (lv_at hl 0 rfl) ?_
  refine lv_lload_n hx hb d_Clk_universal_13 rfl (lv_at hl 3 rfl) ?_
  refine p_callV (rest := []) (q0 := 0) hx hb (hml.trans hl.1.symm) hown hk hK k_Clk_69 (ct_Zone_isReadInSummer l D tys (aZ zi) b0 e0 off sv b1 b2 b3 b4 e1 e2 e3 e4 t (by omega) (by omega) (by omega) (by omega) gb ge (by omega) (by omega)) (w_subP (is := [2, 3, 4]) hP rfl) (w_subD (is := [2, 3, 4]) hD rfl rfl) rfl rfl rfl rfl ⟨rfl, rfl⟩ ⟨by decide, by decide, by decide, by decide⟩ (Nat.le_of_ble_eq_true rfl) d_Clk_universal_14 ?_
  refine lv_istore (lv' := [(6, .int (iI (bI (cSum off sv (b1, b2, b3, b4) (e1, e2, e3, e4) (t - (off + sv) * 60000))))), (5, .ref (aZ zi)), (0, .ref x), (1, .int (iI ((zi : Int)))), (2, .long (lL t)), (4, .int (iI (bI lt)))]) hx hb d_Clk_universal_17 hl (by decide) rfl (fun ls hl => ?_)
  refine lv_aload hx hb d_Clk_universal_19 (lv_at hl 1 rfl) ?_
  refine lv_lload_n hx hb d_Clk_universal_21 rfl (lv_at hl 4 rfl) ?_
  refine p_callV (rest := []) (q0 := 0) hx hb (hml.trans hl.1.symm) hown hk hK k_Clk_73 (ct_Zone_isReadOutsideSummer l D tys (aZ zi) b0 e0 off sv b1 b2 b3 b4 e1 e2 e3 e4 t (by omega) (by omega) (by omega) (by omega) gb ge (by omega) (by omega)) (w_subP (is := [2, 3, 4]) hP rfl) (w_subD (is := [2, 3, 4]) hD rfl rfl) rfl rfl rfl rfl ⟨rfl, rfl⟩ ⟨by decide, by decide, by decide, by decide⟩ (Nat.le_of_ble_eq_true rfl) d_Clk_universal_22 ?_
  refine lv_istore (lv' := [(7, .int (iI (bI (!cSum off sv (b1, b2, b3, b4) (e1, e2, e3, e4) (t - off * 60000))))), (6, .int (iI (bI (cSum off sv (b1, b2, b3, b4) (e1, e2, e3, e4) (t - (off + sv) * 60000))))), (5, .ref (aZ zi)), (0, .ref x), (1, .int (iI ((zi : Int)))), (2, .long (lL t)), (4, .int (iI (bI lt)))]) hx hb d_Clk_universal_25 hl (by decide) rfl (fun ls hl => ?_)
  refine lv_iload hx hb d_Clk_universal_27 (lv_at hl 1 rfl) ?_
  refine ri_if_ne (tgt := 45) hx hb d_Clk_universal_29 (by decide) (fun h29 => ?_) (fun h29 => ?_)
  · refine lv_iload hx hb d_Clk_universal_45 (lv_at hl 1 rfl) ?_
    refine ri_if_eq (tgt := 64) hx hb d_Clk_universal_47 (by decide) (fun h47 => ?_) (fun h47 => ?_)
    · refine lv_iconst (v := iI 0) hx hb d_Clk_universal_64 rfl ?_
      refine lv_istore (lv' := [(8, .int (iI 0)), (7, .int (iI (bI (!cSum off sv (b1, b2, b3, b4) (e1, e2, e3, e4) (t - off * 60000))))), (6, .int (iI (bI (cSum off sv (b1, b2, b3, b4) (e1, e2, e3, e4) (t - (off + sv) * 60000))))), (5, .ref (aZ zi)), (0, .ref x), (1, .int (iI ((zi : Int)))), (2, .long (lL t)), (4, .int (iI (bI lt)))]) hx hb d_Clk_universal_65 hl (by decide) rfl (fun ls hl => ?_)
      refine lv_iload hx hb d_Clk_universal_67 (lv_at hl 0 rfl) ?_
      refine ri_if_eq (tgt := 81) hx hb d_Clk_universal_69 (by decide) (fun h69 => ?_) (fun h69 => ?_)
      · refine lv_aload hx hb d_Clk_universal_81 (lv_at hl 3 rfl) ?_
        refine lv_lload_n hx hb d_Clk_universal_83 rfl (lv_at hl 6 rfl) ?_
        refine p_callV (rest := []) (q0 := 0) hx hb (hml.trans hl.1.symm) hown hk hK k_Clk_83 (ct_Zone_fromPlainReading l D tys (aZ zi) b0 e0 off sv b1 b2 b3 b4 e1 e2 e3 e4 t (by omega) (by omega) (by omega) (by omega) (by omega) (by omega)) (w_subP (is := [2, 3, 4]) hP rfl) (w_subD (is := [2, 3, 4]) hD rfl rfl) rfl rfl rfl rfl ⟨rfl, rfl⟩ ⟨by decide, by decide, by decide, by decide⟩ (Nat.le_of_ble_eq_true rfl) d_Clk_universal_84 ?_
        exact p_lret hx hb hr hlk d_Clk_universal_87 (by first | (exfalso; omega) | (unfold aUni aIn aOut; first | rw [if_pos (by omega)] | rw [if_neg (by omega)]))
      · exfalso; omega
    · refine lv_iload hx hb d_Clk_universal_50 (lv_at hl 6 rfl) ?_
      refine ri_if_eq (tgt := 60) hx hb d_Clk_universal_52 (by decide) (fun h52 => ?_) (fun h52 => ?_)
      · refine lv_iconst (v := iI 1) hx hb d_Clk_universal_60 rfl ?_
        refine lv_goto (tgt := 65) hx hb d_Clk_universal_61 (by decide) ?_
        refine lv_istore (lv' := [(8, .int (iI 1)), (7, .int (iI (bI (!cSum off sv (b1, b2, b3, b4) (e1, e2, e3, e4) (t - off * 60000))))), (6, .int (iI (bI (cSum off sv (b1, b2, b3, b4) (e1, e2, e3, e4) (t - (off + sv) * 60000))))), (5, .ref (aZ zi)), (0, .ref x), (1, .int (iI ((zi : Int)))), (2, .long (lL t)), (4, .int (iI (bI lt)))]) hx hb d_Clk_universal_65 hl (by decide) rfl (fun ls hl => ?_)
        refine lv_iload hx hb d_Clk_universal_67 (lv_at hl 0 rfl) ?_
        refine ri_if_eq (tgt := 81) hx hb d_Clk_universal_69 (by decide) (fun h69 => ?_) (fun h69 => ?_)
        · exfalso; omega
        · refine lv_aload hx hb d_Clk_universal_72 (lv_at hl 3 rfl) ?_
          refine lv_lload_n hx hb d_Clk_universal_74 rfl (lv_at hl 6 rfl) ?_
          refine p_callV (rest := []) (q0 := 0) hx hb (hml.trans hl.1.symm) hown hk hK k_Clk_79 (ct_Zone_fromSummerReading l D tys (aZ zi) b0 e0 off sv b1 b2 b3 b4 e1 e2 e3 e4 t (by omega) (by omega) (by omega) (by omega) (by omega) (by omega)) (w_subP (is := [2, 3, 4]) hP rfl) (w_subD (is := [2, 3, 4]) hD rfl rfl) rfl rfl rfl rfl ⟨rfl, rfl⟩ ⟨by decide, by decide, by decide, by decide⟩ (Nat.le_of_ble_eq_true rfl) d_Clk_universal_75 ?_
          refine lv_goto (tgt := 87) hx hb d_Clk_universal_78 (by decide) ?_
          exact p_lret hx hb hr hlk d_Clk_universal_87 (by first | (exfalso; omega) | (unfold aUni aIn aOut; first | rw [if_pos (by omega)] | rw [if_neg (by omega)]))
      · refine lv_iload hx hb d_Clk_universal_55 (lv_at hl 0 rfl) ?_
        refine ri_if_ne (tgt := 64) hx hb d_Clk_universal_57 (by decide) (fun h57 => ?_) (fun h57 => ?_)
        · refine lv_iconst (v := iI 0) hx hb d_Clk_universal_64 rfl ?_
          refine lv_istore (lv' := [(8, .int (iI 0)), (7, .int (iI (bI (!cSum off sv (b1, b2, b3, b4) (e1, e2, e3, e4) (t - off * 60000))))), (6, .int (iI (bI (cSum off sv (b1, b2, b3, b4) (e1, e2, e3, e4) (t - (off + sv) * 60000))))), (5, .ref (aZ zi)), (0, .ref x), (1, .int (iI ((zi : Int)))), (2, .long (lL t)), (4, .int (iI (bI lt)))]) hx hb d_Clk_universal_65 hl (by decide) rfl (fun ls hl => ?_)
          refine lv_iload hx hb d_Clk_universal_67 (lv_at hl 0 rfl) ?_
          refine ri_if_eq (tgt := 81) hx hb d_Clk_universal_69 (by decide) (fun h69 => ?_) (fun h69 => ?_)
          · refine lv_aload hx hb d_Clk_universal_81 (lv_at hl 3 rfl) ?_
            refine lv_lload_n hx hb d_Clk_universal_83 rfl (lv_at hl 6 rfl) ?_
            refine p_callV (rest := []) (q0 := 0) hx hb (hml.trans hl.1.symm) hown hk hK k_Clk_83 (ct_Zone_fromPlainReading l D tys (aZ zi) b0 e0 off sv b1 b2 b3 b4 e1 e2 e3 e4 t (by omega) (by omega) (by omega) (by omega) (by omega) (by omega)) (w_subP (is := [2, 3, 4]) hP rfl) (w_subD (is := [2, 3, 4]) hD rfl rfl) rfl rfl rfl rfl ⟨rfl, rfl⟩ ⟨by decide, by decide, by decide, by decide⟩ (Nat.le_of_ble_eq_true rfl) d_Clk_universal_84 ?_
            exact p_lret hx hb hr hlk d_Clk_universal_87 (by first | (exfalso; omega) | (unfold aUni aIn aOut; first | rw [if_pos (by omega)] | rw [if_neg (by omega)]))
          · exfalso; omega
        · refine lv_iconst (v := iI 1) hx hb d_Clk_universal_60 rfl ?_
          refine lv_goto (tgt := 65) hx hb d_Clk_universal_61 (by decide) ?_
          refine lv_istore (lv' := [(8, .int (iI 1)), (7, .int (iI (bI (!cSum off sv (b1, b2, b3, b4) (e1, e2, e3, e4) (t - off * 60000))))), (6, .int (iI (bI (cSum off sv (b1, b2, b3, b4) (e1, e2, e3, e4) (t - (off + sv) * 60000))))), (5, .ref (aZ zi)), (0, .ref x), (1, .int (iI ((zi : Int)))), (2, .long (lL t)), (4, .int (iI (bI lt)))]) hx hb d_Clk_universal_65 hl (by decide) rfl (fun ls hl => ?_)
          refine lv_iload hx hb d_Clk_universal_67 (lv_at hl 0 rfl) ?_
          refine ri_if_eq (tgt := 81) hx hb d_Clk_universal_69 (by decide) (fun h69 => ?_) (fun h69 => ?_)
          · exfalso; omega
          · refine lv_aload hx hb d_Clk_universal_72 (lv_at hl 3 rfl) ?_
            refine lv_lload_n hx hb d_Clk_universal_74 rfl (lv_at hl 6 rfl) ?_
            refine p_callV (rest := []) (q0 := 0) hx hb (hml.trans hl.1.symm) hown hk hK k_Clk_79 (ct_Zone_fromSummerReading l D tys (aZ zi) b0 e0 off sv b1 b2 b3 b4 e1 e2 e3 e4 t (by omega) (by omega) (by omega) (by omega) (by omega) (by omega)) (w_subP (is := [2, 3, 4]) hP rfl) (w_subD (is := [2, 3, 4]) hD rfl rfl) rfl rfl rfl rfl ⟨rfl, rfl⟩ ⟨by decide, by decide, by decide, by decide⟩ (Nat.le_of_ble_eq_true rfl) d_Clk_universal_75 ?_
            refine lv_goto (tgt := 87) hx hb d_Clk_universal_78 (by decide) ?_
            exact p_lret hx hb hr hlk d_Clk_universal_87 (by first | (exfalso; omega) | (unfold aUni aIn aOut; first | rw [if_pos (by omega)] | rw [if_neg (by omega)]))
  · refine lv_iload hx hb d_Clk_universal_32 (lv_at hl 0 rfl) ?_
    refine ri_if_ne (tgt := 45) hx hb d_Clk_universal_34 (by decide) (fun h34 => ?_) (fun h34 => ?_)
    · refine lv_iload hx hb d_Clk_universal_45 (lv_at hl 1 rfl) ?_
      refine ri_if_eq (tgt := 64) hx hb d_Clk_universal_47 (by decide) (fun h47 => ?_) (fun h47 => ?_)
      · refine lv_iconst (v := iI 0) hx hb d_Clk_universal_64 rfl ?_
        refine lv_istore (lv' := [(8, .int (iI 0)), (7, .int (iI (bI (!cSum off sv (b1, b2, b3, b4) (e1, e2, e3, e4) (t - off * 60000))))), (6, .int (iI (bI (cSum off sv (b1, b2, b3, b4) (e1, e2, e3, e4) (t - (off + sv) * 60000))))), (5, .ref (aZ zi)), (0, .ref x), (1, .int (iI ((zi : Int)))), (2, .long (lL t)), (4, .int (iI (bI lt)))]) hx hb d_Clk_universal_65 hl (by decide) rfl (fun ls hl => ?_)
        refine lv_iload hx hb d_Clk_universal_67 (lv_at hl 0 rfl) ?_
        refine ri_if_eq (tgt := 81) hx hb d_Clk_universal_69 (by decide) (fun h69 => ?_) (fun h69 => ?_)
        · refine lv_aload hx hb d_Clk_universal_81 (lv_at hl 3 rfl) ?_
          refine lv_lload_n hx hb d_Clk_universal_83 rfl (lv_at hl 6 rfl) ?_
          refine p_callV (rest := []) (q0 := 0) hx hb (hml.trans hl.1.symm) hown hk hK k_Clk_83 (ct_Zone_fromPlainReading l D tys (aZ zi) b0 e0 off sv b1 b2 b3 b4 e1 e2 e3 e4 t (by omega) (by omega) (by omega) (by omega) (by omega) (by omega)) (w_subP (is := [2, 3, 4]) hP rfl) (w_subD (is := [2, 3, 4]) hD rfl rfl) rfl rfl rfl rfl ⟨rfl, rfl⟩ ⟨by decide, by decide, by decide, by decide⟩ (Nat.le_of_ble_eq_true rfl) d_Clk_universal_84 ?_
          exact p_lret hx hb hr hlk d_Clk_universal_87 (by first | (exfalso; omega) | (unfold aUni aIn aOut; first | rw [if_pos (by omega)] | rw [if_neg (by omega)]))
        · exfalso; omega
      · refine lv_iload hx hb d_Clk_universal_50 (lv_at hl 6 rfl) ?_
        refine ri_if_eq (tgt := 60) hx hb d_Clk_universal_52 (by decide) (fun h52 => ?_) (fun h52 => ?_)
        · refine lv_iconst (v := iI 1) hx hb d_Clk_universal_60 rfl ?_
          refine lv_goto (tgt := 65) hx hb d_Clk_universal_61 (by decide) ?_
          refine lv_istore (lv' := [(8, .int (iI 1)), (7, .int (iI (bI (!cSum off sv (b1, b2, b3, b4) (e1, e2, e3, e4) (t - off * 60000))))), (6, .int (iI (bI (cSum off sv (b1, b2, b3, b4) (e1, e2, e3, e4) (t - (off + sv) * 60000))))), (5, .ref (aZ zi)), (0, .ref x), (1, .int (iI ((zi : Int)))), (2, .long (lL t)), (4, .int (iI (bI lt)))]) hx hb d_Clk_universal_65 hl (by decide) rfl (fun ls hl => ?_)
          refine lv_iload hx hb d_Clk_universal_67 (lv_at hl 0 rfl) ?_
          refine ri_if_eq (tgt := 81) hx hb d_Clk_universal_69 (by decide) (fun h69 => ?_) (fun h69 => ?_)
          · exfalso; omega
          · refine lv_aload hx hb d_Clk_universal_72 (lv_at hl 3 rfl) ?_
            refine lv_lload_n hx hb d_Clk_universal_74 rfl (lv_at hl 6 rfl) ?_
            refine p_callV (rest := []) (q0 := 0) hx hb (hml.trans hl.1.symm) hown hk hK k_Clk_79 (ct_Zone_fromSummerReading l D tys (aZ zi) b0 e0 off sv b1 b2 b3 b4 e1 e2 e3 e4 t (by omega) (by omega) (by omega) (by omega) (by omega) (by omega)) (w_subP (is := [2, 3, 4]) hP rfl) (w_subD (is := [2, 3, 4]) hD rfl rfl) rfl rfl rfl rfl ⟨rfl, rfl⟩ ⟨by decide, by decide, by decide, by decide⟩ (Nat.le_of_ble_eq_true rfl) d_Clk_universal_75 ?_
            refine lv_goto (tgt := 87) hx hb d_Clk_universal_78 (by decide) ?_
            exact p_lret hx hb hr hlk d_Clk_universal_87 (by first | (exfalso; omega) | (unfold aUni aIn aOut; first | rw [if_pos (by omega)] | rw [if_neg (by omega)]))
        · refine lv_iload hx hb d_Clk_universal_55 (lv_at hl 0 rfl) ?_
          refine ri_if_ne (tgt := 64) hx hb d_Clk_universal_57 (by decide) (fun h57 => ?_) (fun h57 => ?_)
          · refine lv_iconst (v := iI 0) hx hb d_Clk_universal_64 rfl ?_
            refine lv_istore (lv' := [(8, .int (iI 0)), (7, .int (iI (bI (!cSum off sv (b1, b2, b3, b4) (e1, e2, e3, e4) (t - off * 60000))))), (6, .int (iI (bI (cSum off sv (b1, b2, b3, b4) (e1, e2, e3, e4) (t - (off + sv) * 60000))))), (5, .ref (aZ zi)), (0, .ref x), (1, .int (iI ((zi : Int)))), (2, .long (lL t)), (4, .int (iI (bI lt)))]) hx hb d_Clk_universal_65 hl (by decide) rfl (fun ls hl => ?_)
            refine lv_iload hx hb d_Clk_universal_67 (lv_at hl 0 rfl) ?_
            refine ri_if_eq (tgt := 81) hx hb d_Clk_universal_69 (by decide) (fun h69 => ?_) (fun h69 => ?_)
            · refine lv_aload hx hb d_Clk_universal_81 (lv_at hl 3 rfl) ?_
              refine lv_lload_n hx hb d_Clk_universal_83 rfl (lv_at hl 6 rfl) ?_
              refine p_callV (rest := []) (q0 := 0) hx hb (hml.trans hl.1.symm) hown hk hK k_Clk_83 (ct_Zone_fromPlainReading l D tys (aZ zi) b0 e0 off sv b1 b2 b3 b4 e1 e2 e3 e4 t (by omega) (by omega) (by omega) (by omega) (by omega) (by omega)) (w_subP (is := [2, 3, 4]) hP rfl) (w_subD (is := [2, 3, 4]) hD rfl rfl) rfl rfl rfl rfl ⟨rfl, rfl⟩ ⟨by decide, by decide, by decide, by decide⟩ (Nat.le_of_ble_eq_true rfl) d_Clk_universal_84 ?_
              exact p_lret hx hb hr hlk d_Clk_universal_87 (by first | (exfalso; omega) | (unfold aUni aIn aOut; first | rw [if_pos (by omega)] | rw [if_neg (by omega)]))
            · exfalso; omega
          · refine lv_iconst (v := iI 1) hx hb d_Clk_universal_60 rfl ?_
            refine lv_goto (tgt := 65) hx hb d_Clk_universal_61 (by decide) ?_
            refine lv_istore (lv' := [(8, .int (iI 1)), (7, .int (iI (bI (!cSum off sv (b1, b2, b3, b4) (e1, e2, e3, e4) (t - off * 60000))))), (6, .int (iI (bI (cSum off sv (b1, b2, b3, b4) (e1, e2, e3, e4) (t - (off + sv) * 60000))))), (5, .ref (aZ zi)), (0, .ref x), (1, .int (iI ((zi : Int)))), (2, .long (lL t)), (4, .int (iI (bI lt)))]) hx hb d_Clk_universal_65 hl (by decide) rfl (fun ls hl => ?_)
            refine lv_iload hx hb d_Clk_universal_67 (lv_at hl 0 rfl) ?_
            refine ri_if_eq (tgt := 81) hx hb d_Clk_universal_69 (by decide) (fun h69 => ?_) (fun h69 => ?_)
            · exfalso; omega
            · refine lv_aload hx hb d_Clk_universal_72 (lv_at hl 3 rfl) ?_
              refine lv_lload_n hx hb d_Clk_universal_74 rfl (lv_at hl 6 rfl) ?_
              refine p_callV (rest := []) (q0 := 0) hx hb (hml.trans hl.1.symm) hown hk hK k_Clk_79 (ct_Zone_fromSummerReading l D tys (aZ zi) b0 e0 off sv b1 b2 b3 b4 e1 e2 e3 e4 t (by omega) (by omega) (by omega) (by omega) (by omega) (by omega)) (w_subP (is := [2, 3, 4]) hP rfl) (w_subD (is := [2, 3, 4]) hD rfl rfl) rfl rfl rfl rfl ⟨rfl, rfl⟩ ⟨by decide, by decide, by decide, by decide⟩ (Nat.le_of_ble_eq_true rfl) d_Clk_universal_75 ?_
              refine lv_goto (tgt := 87) hx hb d_Clk_universal_78 (by decide) ?_
              exact p_lret hx hb hr hlk d_Clk_universal_87 (by first | (exfalso; omega) | (unfold aUni aIn aOut; first | rw [if_pos (by omega)] | rw [if_neg (by omega)]))
    · exfalso; omega
abbrev rm_Clk_change : Room := { frames := 6, cells := 0, slots := 0, locals := 141 }
set_option maxHeartbeats 4000000 in
set_option maxRecDepth 100000 in
theorem ct_Clk_change (l : Launch) (D : va_G) (tys : List (ClassId × FieldType)) (x : Nat) (tp : Nat) (dr : Nat) (za : Nat) (bp : Int) (cZ : ClassId) (aZ : Nat → Nat) (zi : Nat) (b0 : Nat) (e0 : Nat) (off : Int) (sv : Int) (b1 : Int) (b2 : Int) (b3 : Int) (b4 : Int) (e1 : Int) (e2 : Int) (e3 : Int) (e4 : Int) (t : Int) (bk : Bool) (htz : tys[4]? = some (cZ, .object "ZoneClock$Zone")) (gz : zi < 8) (go1 : -840 ≤ off) (go2 : off ≤ 840) (gs1 : 0 ≤ sv) (gs2 : sv ≤ 120) (gb : 0 < sv → rOk b1 b2 b3 b4) (ge : 0 < sv → rOk e1 e2 e3 e4) (gt1 : 0 ≤ t) (gt2 : t ≤ 10413791999999) : pMet l y_Clk_change c_Clk_change 8 (some .long) rm_Clk_change D tys [.ref x, .int (iI ((zi : Int))), .long (lL t), .int (iI (bI bk))] [(x, .inr (3, [.ref tp, .ref dr, .ref za, .int (iI bp)])), (za, .inl (cZ, 8, .inr (.inr (.inr (.inr (fun k => some (aZ k))))))), (aZ zi, .inr (2, [.int (iI off), .int (iI sv), .ref b0, .ref e0])), (b0, .inr (0, [.int (iI b1), .int (iI b2), .int (iI b3), .int (iI b4)])), (e0, .inr (0, [.int (iI e1), .int (iI e2), .int (iI e3), .int (iI e4)]))] (.long (lL (aChg off sv (b1, b2, b3, b4) (e1, e2, e3, e4) t bk))) := by
  refine pMet_of (by decide) (Nat.le_of_ble_eq_true rfl) ?_
  intro p e s m below meth c hx hb hr hown hlk hml hk hK hP hD ls hl
  have hl : lv_has ls 8 [(0, .ref x), (1, .int (iI ((zi : Int)))), (2, .long (lL t)), (4, .int (iI (bI bk)))] := hl
  have g1 := cBack_bd (t := t) go1 go2 gs1 gs2 gb ge (by omega) (by omega)
  have g2 := cFwd_bd (t := t) go1 go2 gs1 gs2 gb ge (by omega) (by omega)
  have gL := bI_b bk
  refine lv_aload_n hx hb d_Clk_change_0 rfl (lv_at hl 0 rfl) ?_
  refine lv_iload_n hx hb d_Clk_change_1 rfl (lv_at hl 1 rfl) ?_
  refine p_callV (rest := []) (q0 := 0) hx hb (hml.trans hl.1.symm) hown hk hK k_Clk_44 (ct_Clk_zoneAt l D tys x tp dr za bp cZ aZ zi htz (by omega)) (w_subP (is := [0, 1]) hP rfl) (w_subD (is := [0, 1]) hD rfl rfl) rfl rfl rfl rfl ⟨rfl, rfl⟩ ⟨by decide, by decide, by decide, by decide⟩ (Nat.le_of_ble_eq_true rfl) d_Clk_change_2 ?_
  refine lv_astore (lv' := [(5, .ref (aZ zi)), (0, .ref x), (1, .int (iI ((zi : Int)))), (2, .long (lL t)), (4, .int (iI (bI bk)))]) hx hb d_Clk_change_5 hl (by decide) rfl (fun ls hl => ?_)
  refine lv_lload_n hx hb d_Clk_change_7 rfl (lv_at hl 3 rfl) ?_
  refine v_callS (rest := []) hx hb (hml.trans hl.1.symm) hown hk hK k_Clk_59 (ct_Clk_checkTime l D tys t (by omega) (by omega)) nil_P nil_D rfl rfl ⟨rfl, rfl⟩ ⟨by decide, by decide, by decide, by decide⟩ (Nat.le_of_ble_eq_true rfl) d_Clk_change_8 ?_
  refine lv_iload hx hb d_Clk_change_11 (lv_at hl 4 rfl) ?_
  refine ri_if_eq (tgt := 25) hx hb d_Clk_change_13 (by decide) (fun h13 => ?_) (fun h13 => ?_)
  · refine lv_aload hx hb d_Clk_change_25 (lv_at hl 0 rfl) ?_
    refine lv_lload_n hx hb d_Clk_change_27 rfl (lv_at hl 3 rfl) ?_
    refine p_callV (rest := []) (q0 := 0) hx hb (hml.trans hl.1.symm) hown hk hK k_Clk_89 (ct_Zone_firstChangeBehind l D tys (aZ zi) b0 e0 off sv b1 b2 b3 b4 e1 e2 e3 e4 t (by omega) (by omega) (by omega) (by omega) gb ge (by omega) (by omega)) (w_subP (is := [2, 3, 4]) hP rfl) (w_subD (is := [2, 3, 4]) hD rfl rfl) rfl rfl rfl rfl ⟨rfl, rfl⟩ ⟨by decide, by decide, by decide, by decide⟩ (Nat.le_of_ble_eq_true rfl) d_Clk_change_28 ?_
    refine lv_lstore (lv' := [(6, .long (lL (cFwd off sv (b1, b2, b3, b4) (e1, e2, e3, e4) t))), (5, .ref (aZ zi)), (0, .ref x), (1, .int (iI ((zi : Int)))), (2, .long (lL t)), (4, .int (iI (bI bk)))]) hx hb d_Clk_change_31 hl (by decide) rfl (fun ls hl => ?_)
    refine lv_lload hx hb d_Clk_change_33 (lv_at hl 0 rfl) ?_
    refine lv_lconst (v := lL 0) hx hb d_Clk_change_35 (by decide) ?_
    refine ri_lcmp_lt (tgt := 49) hx hb d_Clk_change_36 d_Clk_change_37 (by decide) (fun h36 => ?_) (fun h36 => ?_)
    · refine lv_ldc2 (v := lL (-1)) hx hb hown (hk _ kc_Clk_94 _) d_Clk_change_49 ?_
      refine lv_goto (tgt := 57) hx hb d_Clk_change_52 (by decide) ?_
      exact p_lret hx hb hr hlk d_Clk_change_57 (by unfold aChg cTell; first | (rw [if_pos h13, if_pos (by omega)]; done) | (rw [if_pos h13, if_neg (by omega)]; done) | (rw [if_neg h13, if_pos (by omega)]; done) | (rw [if_neg h13, if_neg (by omega)]; done))
    · refine lv_lload hx hb d_Clk_change_40 (lv_at hl 0 rfl) ?_
      refine lv_ldc2 (v := lL 1000000000000000) hx hb hown (hk _ kc_Clk_92 _) d_Clk_change_42 ?_
      refine ri_lcmp_ne (tgt := 55) hx hb d_Clk_change_45 d_Clk_change_46 (by decide) (fun h45 => ?_) (fun h45 => ?_)
      · refine lv_lload hx hb d_Clk_change_55 (lv_at hl 0 rfl) ?_
        exact p_lret hx hb hr hlk d_Clk_change_57 (by unfold aChg cTell; first | (rw [if_pos h13, if_pos (by omega)]; done) | (rw [if_pos h13, if_neg (by omega)]; done) | (rw [if_neg h13, if_pos (by omega)]; done) | (rw [if_neg h13, if_neg (by omega)]; done))
      · refine lv_ldc2 (v := lL (-1)) hx hb hown (hk _ kc_Clk_94 _) d_Clk_change_49 ?_
        refine lv_goto (tgt := 57) hx hb d_Clk_change_52 (by decide) ?_
        exact p_lret hx hb hr hlk d_Clk_change_57 (by unfold aChg cTell; first | (rw [if_pos h13, if_pos (by omega)]; done) | (rw [if_pos h13, if_neg (by omega)]; done) | (rw [if_neg h13, if_pos (by omega)]; done) | (rw [if_neg h13, if_neg (by omega)]; done))
  · refine lv_aload hx hb d_Clk_change_16 (lv_at hl 0 rfl) ?_
    refine lv_lload_n hx hb d_Clk_change_18 rfl (lv_at hl 3 rfl) ?_
    refine p_callV (rest := []) (q0 := 0) hx hb (hml.trans hl.1.symm) hown hk hK k_Clk_86 (ct_Zone_lastChangeUpTo l D tys (aZ zi) b0 e0 off sv b1 b2 b3 b4 e1 e2 e3 e4 t (by omega) (by omega) (by omega) (by omega) gb ge (by omega) (by omega)) (w_subP (is := [2, 3, 4]) hP rfl) (w_subD (is := [2, 3, 4]) hD rfl rfl) rfl rfl rfl rfl ⟨rfl, rfl⟩ ⟨by decide, by decide, by decide, by decide⟩ (Nat.le_of_ble_eq_true rfl) d_Clk_change_19 ?_
    refine lv_goto (tgt := 31) hx hb d_Clk_change_22 (by decide) ?_
    refine lv_lstore (lv' := [(6, .long (lL (cBack off sv (b1, b2, b3, b4) (e1, e2, e3, e4) t))), (5, .ref (aZ zi)), (0, .ref x), (1, .int (iI ((zi : Int)))), (2, .long (lL t)), (4, .int (iI (bI bk)))]) hx hb d_Clk_change_31 hl (by decide) rfl (fun ls hl => ?_)
    refine lv_lload hx hb d_Clk_change_33 (lv_at hl 0 rfl) ?_
    refine lv_lconst (v := lL 0) hx hb d_Clk_change_35 (by decide) ?_
    refine ri_lcmp_lt (tgt := 49) hx hb d_Clk_change_36 d_Clk_change_37 (by decide) (fun h36 => ?_) (fun h36 => ?_)
    · refine lv_ldc2 (v := lL (-1)) hx hb hown (hk _ kc_Clk_94 _) d_Clk_change_49 ?_
      refine lv_goto (tgt := 57) hx hb d_Clk_change_52 (by decide) ?_
      exact p_lret hx hb hr hlk d_Clk_change_57 (by unfold aChg cTell; first | (rw [if_pos h13, if_pos (by omega)]; done) | (rw [if_pos h13, if_neg (by omega)]; done) | (rw [if_neg h13, if_pos (by omega)]; done) | (rw [if_neg h13, if_neg (by omega)]; done))
    · refine lv_lload hx hb d_Clk_change_40 (lv_at hl 0 rfl) ?_
      refine lv_ldc2 (v := lL 1000000000000000) hx hb hown (hk _ kc_Clk_92 _) d_Clk_change_42 ?_
      refine ri_lcmp_ne (tgt := 55) hx hb d_Clk_change_45 d_Clk_change_46 (by decide) (fun h45 => ?_) (fun h45 => ?_)
      · refine lv_lload hx hb d_Clk_change_55 (lv_at hl 0 rfl) ?_
        exact p_lret hx hb hr hlk d_Clk_change_57 (by unfold aChg cTell; first | (rw [if_pos h13, if_pos (by omega)]; done) | (rw [if_pos h13, if_neg (by omega)]; done) | (rw [if_neg h13, if_pos (by omega)]; done) | (rw [if_neg h13, if_neg (by omega)]; done))
      · refine lv_ldc2 (v := lL (-1)) hx hb hown (hk _ kc_Clk_94 _) d_Clk_change_49 ?_
        refine lv_goto (tgt := 57) hx hb d_Clk_change_52 (by decide) ?_
        exact p_lret hx hb hr hlk d_Clk_change_57 (by unfold aChg cTell; first | (rw [if_pos h13, if_pos (by omega)]; done) | (rw [if_pos h13, if_neg (by omega)]; done) | (rw [if_neg h13, if_pos (by omega)]; done) | (rw [if_neg h13, if_neg (by omega)]; done))
abbrev rm_Clk_field : Room := { frames := 6, cells := 0, slots := 0, locals := 141 }
set_option maxHeartbeats 4000000 in
set_option maxRecDepth 100000 in
theorem ct_Clk_field (l : Launch) (D : va_G) (tys : List (ClassId × FieldType)) (x : Nat) (tp : Nat) (dr : Nat) (za : Nat) (bp : Int) (cZ : ClassId) (aZ : Nat → Nat) (zi : Nat) (b0 : Nat) (e0 : Nat) (off : Int) (sv : Int) (b1 : Int) (b2 : Int) (b3 : Int) (b4 : Int) (e1 : Int) (e2 : Int) (e3 : Int) (e4 : Int) (t : Int) (w : Int) (htz : tys[4]? = some (cZ, .object "ZoneClock$Zone")) (gz : zi < 8) (go1 : -840 ≤ off) (go2 : off ≤ 840) (gs1 : 0 ≤ sv) (gs2 : sv ≤ 120) (gb : 0 < sv → rOk b1 b2 b3 b4) (ge : 0 < sv → rOk e1 e2 e3 e4) (gt1 : 0 ≤ t) (gt2 : t ≤ 10413791999999) (gw1 : 0 ≤ w) (gw2 : w ≤ 8) : pMet l y_Clk_field c_Clk_field 7 (some .int) rm_Clk_field D tys [.ref x, .int (iI ((zi : Int))), .long (lL t), .int (iI w)] [(x, .inr (3, [.ref tp, .ref dr, .ref za, .int (iI bp)])), (za, .inl (cZ, 8, .inr (.inr (.inr (.inr (fun k => some (aZ k))))))), (aZ zi, .inr (2, [.int (iI off), .int (iI sv), .ref b0, .ref e0])), (b0, .inr (0, [.int (iI b1), .int (iI b2), .int (iI b3), .int (iI b4)])), (e0, .inr (0, [.int (iI e1), .int (iI e2), .int (iI e3), .int (iI e4)]))] (.int (iI (aFld off sv (b1, b2, b3, b4) (e1, e2, e3, e4) t w))) := by
  refine pMet_of (by decide) (Nat.le_of_ble_eq_true rfl) ?_
  intro p e s m below meth c hx hb hr hown hlk hml hk hK hP hD ls hl
  have hl : lv_has ls 7 [(0, .ref x), (1, .int (iI ((zi : Int)))), (2, .long (lL t)), (4, .int (iI w))] := hl
  have gm := cMin_bd (b := (b1, b2, b3, b4)) (e := (e1, e2, e3, e4)) (t := t) go1 go2 gs1 gs2
  have gS := bI_b (cSum off sv (b1, b2, b3, b4) (e1, e2, e3, e4) t)
  refine lv_aload_n hx hb d_Clk_field_0 rfl (lv_at hl 0 rfl) ?_
  refine lv_iload_n hx hb d_Clk_field_1 rfl (lv_at hl 1 rfl) ?_
  refine p_callV (rest := []) (q0 := 0) hx hb (hml.trans hl.1.symm) hown hk hK k_Clk_44 (ct_Clk_zoneAt l D tys x tp dr za bp cZ aZ zi htz (by omega)) (w_subP (is := [0, 1]) hP rfl) (w_subD (is := [0, 1]) hD rfl rfl) rfl rfl rfl rfl ⟨rfl, rfl⟩ ⟨by decide, by decide, by decide, by decide⟩ (Nat.le_of_ble_eq_true rfl) d_Clk_field_2 ?_
  refine lv_astore (lv' := [(5, .ref (aZ zi)), (0, .ref x), (1, .int (iI ((zi : Int)))), (2, .long (lL t)), (4, .int (iI w))]) hx hb d_Clk_field_5 hl (by decide) rfl (fun ls hl => ?_)
  refine lv_lload_n hx hb d_Clk_field_7 rfl (lv_at hl 3 rfl) ?_
  refine v_callS (rest := []) hx hb (hml.trans hl.1.symm) hown hk hK k_Clk_59 (ct_Clk_checkTime l D tys t (by omega) (by omega)) nil_P nil_D rfl rfl ⟨rfl, rfl⟩ ⟨by decide, by decide, by decide, by decide⟩ (Nat.le_of_ble_eq_true rfl) d_Clk_field_8 ?_
  refine lv_iload hx hb d_Clk_field_11 (lv_at hl 4 rfl) ?_
  refine ri_if_lt (tgt := 23) hx hb d_Clk_field_13 (by decide) (fun h13 => ?_) (fun h13 => ?_)
  · exfalso; omega
  · refine lv_iload hx hb d_Clk_field_16 (lv_at hl 4 rfl) ?_
    refine lv_bipush (v := iI 8) hx hb d_Clk_field_18 (by decide) ?_
    refine ri_icmp_le (tgt := 31) hx hb d_Clk_field_20 (by decide) (fun h20 => ?_) (fun h20 => ?_)
    · refine lv_iload hx hb d_Clk_field_31 (lv_at hl 4 rfl) ?_
      refine lv_bipush (v := iI 8) hx hb d_Clk_field_33 (by decide) ?_
      refine ri_icmp_ne (tgt := 53) hx hb d_Clk_field_35 (by decide) (fun h35 => ?_) (fun h35 => ?_)
      · refine lv_aload hx hb d_Clk_field_53 (lv_at hl 0 rfl) ?_
        refine lv_lload_n hx hb d_Clk_field_55 rfl (lv_at hl 3 rfl) ?_
        refine p_callV (rest := []) (q0 := 0) hx hb (hml.trans hl.1.symm) hown hk hK k_Clk_63 (ct_Zone_minutesAt l D tys (aZ zi) b0 e0 off sv b1 b2 b3 b4 e1 e2 e3 e4 t (by omega) (by omega) (by omega) (by omega) gb ge (by omega) (by omega)) (w_subP (is := [2, 3, 4]) hP rfl) (w_subD (is := [2, 3, 4]) hD rfl rfl) rfl rfl rfl rfl ⟨rfl, rfl⟩ ⟨by decide, by decide, by decide, by decide⟩ (Nat.le_of_ble_eq_true rfl) d_Clk_field_56 ?_
        refine lv_istore (lv' := [(6, .int (iI (cMin off sv (b1, b2, b3, b4) (e1, e2, e3, e4) t))), (5, .ref (aZ zi)), (0, .ref x), (1, .int (iI ((zi : Int)))), (2, .long (lL t)), (4, .int (iI w))]) hx hb d_Clk_field_59 hl (by decide) rfl (fun ls hl => ?_)
        refine lv_iload hx hb d_Clk_field_61 (lv_at hl 5 rfl) ?_
        refine lv_bipush (v := iI 7) hx hb d_Clk_field_63 (by decide) ?_
        refine ri_icmp_ne (tgt := 71) hx hb d_Clk_field_65 (by decide) (fun h65 => ?_) (fun h65 => ?_)
        · refine lv_lload_n hx hb d_Clk_field_71 rfl (lv_at hl 4 rfl) ?_
          refine lv_iload hx hb d_Clk_field_72 (lv_at hl 0 rfl) ?_
          refine ri_i2l hx hb d_Clk_field_74 ?_
          refine lv_ldc2 (v := lL 60000) hx hb hown (hk _ kc_Clk_67 _) d_Clk_field_75 ?_
          refine ri_lmul hx hb d_Clk_field_78 ?_
          refine ri_ladd hx hb d_Clk_field_79 ?_
          refine lv_iload hx hb d_Clk_field_80 (lv_at hl 5 rfl) ?_
          refine p_callS (rest := []) hx hb (hml.trans hl.1.symm) hown hk hK k_Clk_99 (ct_Cal_partOf l D tys (t + ((cMin off sv (b1, b2, b3, b4) (e1, e2, e3, e4) t) * 60000)) w (by omega) (by omega) (by omega) (by omega)) nil_P nil_D rfl rfl ⟨rfl, rfl⟩ ⟨by decide, by decide, by decide, by decide⟩ (Nat.le_of_ble_eq_true rfl) d_Clk_field_82 ?_
          exact p_iret hx hb hr hlk d_Clk_field_85 (by unfold aFld; rw [if_neg h35, if_neg h65])
        · refine lv_iload hx hb d_Clk_field_68 (lv_at hl 0 rfl) ?_
          exact p_iret hx hb hr hlk d_Clk_field_70 (by unfold aFld; rw [if_neg h35, if_pos h65])
      · refine lv_aload hx hb d_Clk_field_38 (lv_at hl 0 rfl) ?_
        refine lv_lload_n hx hb d_Clk_field_40 rfl (lv_at hl 3 rfl) ?_
        refine p_callV (rest := []) (q0 := 0) hx hb (hml.trans hl.1.symm) hown hk hK k_Clk_96 (ct_Zone_isSummer l D tys (aZ zi) b0 e0 off sv b1 b2 b3 b4 e1 e2 e3 e4 t (by omega) (by omega) (by omega) (by omega) gb ge (by omega) (by omega)) (w_subP (is := [2, 3, 4]) hP rfl) (w_subD (is := [2, 3, 4]) hD rfl rfl) rfl rfl rfl rfl ⟨rfl, rfl⟩ ⟨by decide, by decide, by decide, by decide⟩ (Nat.le_of_ble_eq_true rfl) d_Clk_field_41 ?_
        refine ri_if_eq (tgt := 51) hx hb d_Clk_field_44 (by decide) (fun h44 => ?_) (fun h44 => ?_)
        · refine lv_iconst (v := iI 0) hx hb d_Clk_field_51 rfl ?_
          exact p_iret hx hb hr hlk d_Clk_field_52 (by unfold aFld; rw [if_pos h35]; omega)
        · refine lv_iconst (v := iI 1) hx hb d_Clk_field_47 rfl ?_
          refine lv_goto (tgt := 52) hx hb d_Clk_field_48 (by decide) ?_
          exact p_iret hx hb hr hlk d_Clk_field_52 (by unfold aFld; rw [if_pos h35]; omega)
    · exfalso; omega
end
section
/-! Twenty bytes; where a text ends. -/
def ap20 (f : Nat → Int32) (n : Nat) (a b c d e : Int32) : Nat → Int32 := ap4 (ap4 (ap4 (ap4 (ap4 f n a) (n + 4) b) (n + 8) c) (n + 12) d) (n + 16) e
theorem zEnd_b (n : Nat) (f : Nat → Int32) : (zEnd n f).1 ≤ n := by
  unfold zEnd
  split
  · exact zR2_b n f
  · exact zS2_b n f
theorem zPlace_ok {n : Nat} {f : Nat → Int32} (h : zBad n f = false) : zPlace n f = -1 := by unfold zPlace; rw [h]; rfl
theorem zPlace_bad {n : Nat} {f : Nat → Int32} (h : zBad n f = true) : zPlace n f = ((zEnd n f).1 : Int) := by unfold zPlace; rw [h]; rfl
end
section
/-! Contracts: ZoneClock's refusals, and its calls that write. By program (wip/whole/m_clk2.py). -/
abbrev rm_Clk_local_x : Room := { frames := 7, cells := 1, slots := 6, locals := 121 }
set_option maxHeartbeats 4000000 in
set_option maxRecDepth 100000 in
theorem ct_Clk_local_x (l : Launch) (D : va_G) (tys : List (ClassId × FieldType)) (aS : Nat) (hoff : l.stackTraces = false) (x : Nat) (tp : Nat) (dr : Nat) (za : Nat) (bp : Int) (cZ : ClassId) (aZ : Nat → Nat) (z : Int) (t : Int) (htz : tys[4]? = some (cZ, .object "ZoneClock$Zone")) (gz1 : -2147483648 ≤ z) (gz2 : z ≤ 2147483647) (gi1 : -9223372036854775808 ≤ t) (gi2 : t ≤ 9223372036854775807) (gbad : (z < 0 ∨ 8 ≤ z) ∨ (t < 0 ∨ 10413791999999 < t)) : xMet l y_Clk_local c_Clk_local 5 (some .long) rm_Clk_local_x D tys aS [.ref x, .int (iI z), .long (lL t)] [(x, .inr (3, [.ref tp, .ref dr, .ref za, .int (iI bp)])), (za, .inl (cZ, 8, .inr (.inr (.inr (.inr (fun k => some (aZ k)))))))] none "java/lang/IllegalArgumentException" [(x, .inr (3, [.ref tp, .ref dr, .ref za, .int (iI bp)])), (za, .inl (cZ, 8, .inr (.inr (.inr (.inr (fun k => some (aZ k)))))))] := by
  refine xMet_of (by decide) (Nat.le_of_ble_eq_true rfl) ?_
  intro p e s m below meth c hx hb hr hown hlk hml hE hk hK hP hD hS hAS hZ ls hl
  have hl : lv_has ls 5 [(0, .ref x), (1, .int (iI z)), (2, .long (lL t))] := hl
  by_cases hzz : 0 ≤ z ∧ z < 8
  · obtain ⟨zi, rfl⟩ : ∃ zi : Nat, z = (zi : Int) := ⟨z.toNat, by omega⟩
    have hl : lv_has ls 5 [(0, .ref x), (1, .int (iI ((zi : Int)))), (2, .long (lL t))] := hl
    refine lv_aload_n hx hb d_Clk_local_0 rfl (lv_at hl 0 rfl) ?_
    refine lv_iload_n hx hb d_Clk_local_1 rfl (lv_at hl 1 rfl) ?_
    refine p_callV (rest := []) (q0 := 0) hx hb (hml.trans hl.1.symm) hown hk hK k_Clk_44 (ct_Clk_zoneAt l D tys x tp dr za bp cZ aZ zi htz (by omega)) (w_subP (is := [0, 1]) hP rfl) (w_subD (is := [0, 1]) hD rfl rfl) rfl rfl rfl rfl ⟨rfl, rfl⟩ ⟨by decide, by decide, by decide, by decide⟩ (Nat.le_of_ble_eq_true rfl) d_Clk_local_2 ?_
    refine lv_astore (lv' := [(4, .ref (aZ zi)), (0, .ref x), (1, .int (iI ((zi : Int)))), (2, .long (lL t))]) hx hb d_Clk_local_5 hl (by decide) rfl (fun ls hl => ?_)
    refine lv_lload_n hx hb d_Clk_local_7 rfl (lv_at hl 3 rfl) ?_
    exact x_thr (x_runS (rest := []) hx hb (hml.trans hl.1.symm) hown hk hK k_Clk_59 (ct_Clk_checkTime_x l D tys aS hoff t (by omega) (by omega) (by omega)) nil_P nil_D (x_zH hZ hS hAS) rfl rfl ⟨by decide, by decide, by decide, by decide⟩ (Nat.le_of_ble_eq_true rfl) d_Clk_local_8) hE hlk hP hD hS [] rfl rfl (by rfl) rfl
  · skip
    refine lv_aload_n hx hb d_Clk_local_0 rfl (lv_at hl 0 rfl) ?_
    refine lv_iload_n hx hb d_Clk_local_1 rfl (lv_at hl 1 rfl) ?_
    exact x_thr (x_runV (rest := []) (q0 := 0) hx hb (hml.trans hl.1.symm) hown hk hK k_Clk_44 (ct_Clk_zoneAt_x l D tys aS hoff x tp dr za bp cZ aZ z htz (by omega) (by omega) (by omega)) (w_subP (is := [0, 1]) hP rfl) (x_subD (is := [0, 1]) hD hAS rfl rfl) (x_zH hZ hS hAS) rfl rfl rfl rfl ⟨by decide, by decide, by decide, by decide⟩ (Nat.le_of_ble_eq_true rfl) d_Clk_local_2) hE hlk hP hD hS [0, 1] rfl rfl (by rfl) rfl
abbrev rm_Clk_many_x : Room := { frames := 7, cells := 1, slots := 6, locals := 121 }
set_option maxHeartbeats 4000000 in
set_option maxRecDepth 100000 in
theorem ct_Clk_many_x (l : Launch) (D : va_G) (tys : List (ClassId × FieldType)) (aS : Nat) (hoff : l.stackTraces = false) (x : Nat) (tp : Nat) (dr : Nat) (za : Nat) (bp : Int) (cZ : ClassId) (aZ : Nat → Nat) (z : Int) (t : Int) (htz : tys[4]? = some (cZ, .object "ZoneClock$Zone")) (gz1 : -2147483648 ≤ z) (gz2 : z ≤ 2147483647) (gi1 : -9223372036854775808 ≤ t) (gi2 : t ≤ 9223372036854775807) (gbad : (z < 0 ∨ 8 ≤ z) ∨ (t < 0 ∨ 10413791999999 < t)) : xMet l y_Clk_many c_Clk_many 7 (some .int) rm_Clk_many_x D tys aS [.ref x, .int (iI z), .long (lL t)] [(x, .inr (3, [.ref tp, .ref dr, .ref za, .int (iI bp)])), (za, .inl (cZ, 8, .inr (.inr (.inr (.inr (fun k => some (aZ k)))))))] none "java/lang/IllegalArgumentException" [(x, .inr (3, [.ref tp, .ref dr, .ref za, .int (iI bp)])), (za, .inl (cZ, 8, .inr (.inr (.inr (.inr (fun k => some (aZ k)))))))] := by
  refine xMet_of (by decide) (Nat.le_of_ble_eq_true rfl) ?_
  intro p e s m below meth c hx hb hr hown hlk hml hE hk hK hP hD hS hAS hZ ls hl
  have hl : lv_has ls 7 [(0, .ref x), (1, .int (iI z)), (2, .long (lL t))] := hl
  by_cases hzz : 0 ≤ z ∧ z < 8
  · obtain ⟨zi, rfl⟩ : ∃ zi : Nat, z = (zi : Int) := ⟨z.toNat, by omega⟩
    have hl : lv_has ls 7 [(0, .ref x), (1, .int (iI ((zi : Int)))), (2, .long (lL t))] := hl
    refine lv_aload_n hx hb d_Clk_many_0 rfl (lv_at hl 0 rfl) ?_
    refine lv_iload_n hx hb d_Clk_many_1 rfl (lv_at hl 1 rfl) ?_
    refine p_callV (rest := []) (q0 := 0) hx hb (hml.trans hl.1.symm) hown hk hK k_Clk_44 (ct_Clk_zoneAt l D tys x tp dr za bp cZ aZ zi htz (by omega)) (w_subP (is := [0, 1]) hP rfl) (w_subD (is := [0, 1]) hD rfl rfl) rfl rfl rfl rfl ⟨rfl, rfl⟩ ⟨by decide, by decide, by decide, by decide⟩ (Nat.le_of_ble_eq_true rfl) d_Clk_many_2 ?_
    refine lv_astore (lv' := [(4, .ref (aZ zi)), (0, .ref x), (1, .int (iI ((zi : Int)))), (2, .long (lL t))]) hx hb d_Clk_many_5 hl (by decide) rfl (fun ls hl => ?_)
    refine lv_lload_n hx hb d_Clk_many_7 rfl (lv_at hl 3 rfl) ?_
    exact x_thr (x_runS (rest := []) hx hb (hml.trans hl.1.symm) hown hk hK k_Clk_59 (ct_Clk_checkTime_x l D tys aS hoff t (by omega) (by omega) (by omega)) nil_P nil_D (x_zH hZ hS hAS) rfl rfl ⟨by decide, by decide, by decide, by decide⟩ (Nat.le_of_ble_eq_true rfl) d_Clk_many_8) hE hlk hP hD hS [] rfl rfl (by rfl) rfl
  · skip
    refine lv_aload_n hx hb d_Clk_many_0 rfl (lv_at hl 0 rfl) ?_
    refine lv_iload_n hx hb d_Clk_many_1 rfl (lv_at hl 1 rfl) ?_
    exact x_thr (x_runV (rest := []) (q0 := 0) hx hb (hml.trans hl.1.symm) hown hk hK k_Clk_44 (ct_Clk_zoneAt_x l D tys aS hoff x tp dr za bp cZ aZ z htz (by omega) (by omega) (by omega)) (w_subP (is := [0, 1]) hP rfl) (x_subD (is := [0, 1]) hD hAS rfl rfl) (x_zH hZ hS hAS) rfl rfl rfl rfl ⟨by decide, by decide, by decide, by decide⟩ (Nat.le_of_ble_eq_true rfl) d_Clk_many_2) hE hlk hP hD hS [0, 1] rfl rfl (by rfl) rfl
abbrev rm_Clk_universal_x : Room := { frames := 7, cells := 1, slots := 6, locals := 121 }
set_option maxHeartbeats 4000000 in
set_option maxRecDepth 100000 in
theorem ct_Clk_universal_x (l : Launch) (D : va_G) (tys : List (ClassId × FieldType)) (aS : Nat) (hoff : l.stackTraces = false) (x : Nat) (tp : Nat) (dr : Nat) (za : Nat) (bp : Int) (cZ : ClassId) (aZ : Nat → Nat) (z : Int) (t : Int) (lt : Bool) (htz : tys[4]? = some (cZ, .object "ZoneClock$Zone")) (gz1 : -2147483648 ≤ z) (gz2 : z ≤ 2147483647) (gi1 : -9223372036854775808 ≤ t) (gi2 : t ≤ 9223372036854775807) (gbad : (z < 0 ∨ 8 ≤ z) ∨ (t < 0 ∨ 10413791999999 < t)) : xMet l y_Clk_universal c_Clk_universal 9 (some .long) rm_Clk_universal_x D tys aS [.ref x, .int (iI z), .long (lL t), .int (iI (bI lt))] [(x, .inr (3, [.ref tp, .ref dr, .ref za, .int (iI bp)])), (za, .inl (cZ, 8, .inr (.inr (.inr (.inr (fun k => some (aZ k)))))))] none "java/lang/IllegalArgumentException" [(x, .inr (3, [.ref tp, .ref dr, .ref za, .int (iI bp)])), (za, .inl (cZ, 8, .inr (.inr (.inr (.inr (fun k => some (aZ k)))))))] := by
  refine xMet_of (by decide) (Nat.le_of_ble_eq_true rfl) ?_
  intro p e s m below meth c hx hb hr hown hlk hml hE hk hK hP hD hS hAS hZ ls hl
  have hl : lv_has ls 9 [(0, .ref x), (1, .int (iI z)), (2, .long (lL t)), (4, .int (iI (bI lt)))] := hl
  by_cases hzz : 0 ≤ z ∧ z < 8
  · obtain ⟨zi, rfl⟩ : ∃ zi : Nat, z = (zi : Int) := ⟨z.toNat, by omega⟩
    have hl : lv_has ls 9 [(0, .ref x), (1, .int (iI ((zi : Int)))), (2, .long (lL t)), (4, .int (iI (bI lt)))] := hl
    refine lv_aload_n hx hb d_Clk_universal_0 rfl (lv_at hl 0 rfl) ?_
    refine lv_iload_n hx hb d_Clk_universal_1 rfl (lv_at hl 1 rfl) ?_
    refine p_callV (rest := []) (q0 := 0) hx hb (hml.trans hl.1.symm) hown hk hK k_Clk_44 (ct_Clk_zoneAt l D tys x tp dr za bp cZ aZ zi htz (by omega)) (w_subP (is := [0, 1]) hP rfl) (w_subD (is := [0, 1]) hD rfl rfl) rfl rfl rfl rfl ⟨rfl, rfl⟩ ⟨by decide, by decide, by decide, by decide⟩ (Nat.le_of_ble_eq_true rfl) d_Clk_universal_2 ?_
    refine lv_astore (lv' := [(5, .ref (aZ zi)), (0, .ref x), (1, .int (iI ((zi : Int)))), (2, .long (lL t)), (4, .int (iI (bI lt)))]) hx hb d_Clk_universal_5 hl (by decide) rfl (fun ls hl => ?_)
    refine lv_lload_n hx hb d_Clk_universal_7 rfl (lv_at hl 3 rfl) ?_
    exact x_thr (x_runS (rest := []) hx hb (hml.trans hl.1.symm) hown hk hK k_Clk_59 (ct_Clk_checkTime_x l D tys aS hoff t (by omega) (by omega) (by omega)) nil_P nil_D (x_zH hZ hS hAS) rfl rfl ⟨by decide, by decide, by decide, by decide⟩ (Nat.le_of_ble_eq_true rfl) d_Clk_universal_8) hE hlk hP hD hS [] rfl rfl (by rfl) rfl
  · skip
    refine lv_aload_n hx hb d_Clk_universal_0 rfl (lv_at hl 0 rfl) ?_
    refine lv_iload_n hx hb d_Clk_universal_1 rfl (lv_at hl 1 rfl) ?_
    exact x_thr (x_runV (rest := []) (q0 := 0) hx hb (hml.trans hl.1.symm) hown hk hK k_Clk_44 (ct_Clk_zoneAt_x l D tys aS hoff x tp dr za bp cZ aZ z htz (by omega) (by omega) (by omega)) (w_subP (is := [0, 1]) hP rfl) (x_subD (is := [0, 1]) hD hAS rfl rfl) (x_zH hZ hS hAS) rfl rfl rfl rfl ⟨by decide, by decide, by decide, by decide⟩ (Nat.le_of_ble_eq_true rfl) d_Clk_universal_2) hE hlk hP hD hS [0, 1] rfl rfl (by rfl) rfl
abbrev rm_Clk_change_x : Room := { frames := 7, cells := 1, slots := 6, locals := 121 }
set_option maxHeartbeats 4000000 in
set_option maxRecDepth 100000 in
theorem ct_Clk_change_x (l : Launch) (D : va_G) (tys : List (ClassId × FieldType)) (aS : Nat) (hoff : l.stackTraces = false) (x : Nat) (tp : Nat) (dr : Nat) (za : Nat) (bp : Int) (cZ : ClassId) (aZ : Nat → Nat) (z : Int) (t : Int) (bk : Bool) (htz : tys[4]? = some (cZ, .object "ZoneClock$Zone")) (gz1 : -2147483648 ≤ z) (gz2 : z ≤ 2147483647) (gi1 : -9223372036854775808 ≤ t) (gi2 : t ≤ 9223372036854775807) (gbad : (z < 0 ∨ 8 ≤ z) ∨ (t < 0 ∨ 10413791999999 < t)) : xMet l y_Clk_change c_Clk_change 8 (some .long) rm_Clk_change_x D tys aS [.ref x, .int (iI z), .long (lL t), .int (iI (bI bk))] [(x, .inr (3, [.ref tp, .ref dr, .ref za, .int (iI bp)])), (za, .inl (cZ, 8, .inr (.inr (.inr (.inr (fun k => some (aZ k)))))))] none "java/lang/IllegalArgumentException" [(x, .inr (3, [.ref tp, .ref dr, .ref za, .int (iI bp)])), (za, .inl (cZ, 8, .inr (.inr (.inr (.inr (fun k => some (aZ k)))))))] := by
  refine xMet_of (by decide) (Nat.le_of_ble_eq_true rfl) ?_
  intro p e s m below meth c hx hb hr hown hlk hml hE hk hK hP hD hS hAS hZ ls hl
  have hl : lv_has ls 8 [(0, .ref x), (1, .int (iI z)), (2, .long (lL t)), (4, .int (iI (bI bk)))] := hl
  by_cases hzz : 0 ≤ z ∧ z < 8
  · obtain ⟨zi, rfl⟩ : ∃ zi : Nat, z = (zi : Int) := ⟨z.toNat, by omega⟩
    have hl : lv_has ls 8 [(0, .ref x), (1, .int (iI ((zi : Int)))), (2, .long (lL t)), (4, .int (iI (bI bk)))] := hl
    refine lv_aload_n hx hb d_Clk_change_0 rfl (lv_at hl 0 rfl) ?_
    refine lv_iload_n hx hb d_Clk_change_1 rfl (lv_at hl 1 rfl) ?_
    refine p_callV (rest := []) (q0 := 0) hx hb (hml.trans hl.1.symm) hown hk hK k_Clk_44 (ct_Clk_zoneAt l D tys x tp dr za bp cZ aZ zi htz (by omega)) (w_subP (is := [0, 1]) hP rfl) (w_subD (is := [0, 1]) hD rfl rfl) rfl rfl rfl rfl ⟨rfl, rfl⟩ ⟨by decide, by decide, by decide, by decide⟩ (Nat.le_of_ble_eq_true rfl) d_Clk_change_2 ?_
    refine lv_astore (lv' := [(5, .ref (aZ zi)), (0, .ref x), (1, .int (iI ((zi : Int)))), (2, .long (lL t)), (4, .int (iI (bI bk)))]) hx hb d_Clk_change_5 hl (by decide) rfl (fun ls hl => ?_)
    refine lv_lload_n hx hb d_Clk_change_7 rfl (lv_at hl 3 rfl) ?_
    exact x_thr (x_runS (rest := []) hx hb (hml.trans hl.1.symm) hown hk hK k_Clk_59 (ct_Clk_checkTime_x l D tys aS hoff t (by omega) (by omega) (by omega)) nil_P nil_D (x_zH hZ hS hAS) rfl rfl ⟨by decide, by decide, by decide, by decide⟩ (Nat.le_of_ble_eq_true rfl) d_Clk_change_8) hE hlk hP hD hS [] rfl rfl (by rfl) rfl
  · skip
    refine lv_aload_n hx hb d_Clk_change_0 rfl (lv_at hl 0 rfl) ?_
    refine lv_iload_n hx hb d_Clk_change_1 rfl (lv_at hl 1 rfl) ?_
    exact x_thr (x_runV (rest := []) (q0 := 0) hx hb (hml.trans hl.1.symm) hown hk hK k_Clk_44 (ct_Clk_zoneAt_x l D tys aS hoff x tp dr za bp cZ aZ z htz (by omega) (by omega) (by omega)) (w_subP (is := [0, 1]) hP rfl) (x_subD (is := [0, 1]) hD hAS rfl rfl) (x_zH hZ hS hAS) rfl rfl rfl rfl ⟨by decide, by decide, by decide, by decide⟩ (Nat.le_of_ble_eq_true rfl) d_Clk_change_2) hE hlk hP hD hS [0, 1] rfl rfl (by rfl) rfl
abbrev rm_Clk_field_x : Room := { frames := 7, cells := 1, slots := 6, locals := 121 }
set_option maxHeartbeats 4000000 in
set_option maxRecDepth 100000 in
theorem ct_Clk_field_x (l : Launch) (D : va_G) (tys : List (ClassId × FieldType)) (aS : Nat) (hoff : l.stackTraces = false) (x : Nat) (tp : Nat) (dr : Nat) (za : Nat) (bp : Int) (cZ : ClassId) (aZ : Nat → Nat) (z : Int) (t : Int) (w : Int) (htz : tys[4]? = some (cZ, .object "ZoneClock$Zone")) (gz1 : -2147483648 ≤ z) (gz2 : z ≤ 2147483647) (gi1 : -9223372036854775808 ≤ t) (gi2 : t ≤ 9223372036854775807) (gwi1 : -2147483648 ≤ w) (gwi2 : w ≤ 2147483647) (gbad : (z < 0 ∨ 8 ≤ z) ∨ (t < 0 ∨ 10413791999999 < t) ∨ (w < 0 ∨ 8 < w)) : xMet l y_Clk_field c_Clk_field 7 (some .int) rm_Clk_field_x D tys aS [.ref x, .int (iI z), .long (lL t), .int (iI w)] [(x, .inr (3, [.ref tp, .ref dr, .ref za, .int (iI bp)])), (za, .inl (cZ, 8, .inr (.inr (.inr (.inr (fun k => some (aZ k)))))))] none "java/lang/IllegalArgumentException" [(x, .inr (3, [.ref tp, .ref dr, .ref za, .int (iI bp)])), (za, .inl (cZ, 8, .inr (.inr (.inr (.inr (fun k => some (aZ k)))))))] := by
  refine xMet_of (by decide) (Nat.le_of_ble_eq_true rfl) ?_
  intro p e s m below meth c hx hb hr hown hlk hml hE hk hK hP hD hS hAS hZ ls hl
  have hl : lv_has ls 7 [(0, .ref x), (1, .int (iI z)), (2, .long (lL t)), (4, .int (iI w))] := hl
  by_cases hzz : 0 ≤ z ∧ z < 8
  · obtain ⟨zi, rfl⟩ : ∃ zi : Nat, z = (zi : Int) := ⟨z.toNat, by omega⟩
    have hl : lv_has ls 7 [(0, .ref x), (1, .int (iI ((zi : Int)))), (2, .long (lL t)), (4, .int (iI w))] := hl
    by_cases htt : 0 ≤ t ∧ t ≤ 10413791999999
    · skip
      refine lv_aload_n hx hb d_Clk_field_0 rfl (lv_at hl 0 rfl) ?_
      refine lv_iload_n hx hb d_Clk_field_1 rfl (lv_at hl 1 rfl) ?_
      refine p_callV (rest := []) (q0 := 0) hx hb (hml.trans hl.1.symm) hown hk hK k_Clk_44 (ct_Clk_zoneAt l D tys x tp dr za bp cZ aZ zi htz (by omega)) (w_subP (is := [0, 1]) hP rfl) (w_subD (is := [0, 1]) hD rfl rfl) rfl rfl rfl rfl ⟨rfl, rfl⟩ ⟨by decide, by decide, by decide, by decide⟩ (Nat.le_of_ble_eq_true rfl) d_Clk_field_2 ?_
      refine lv_astore (lv' := [(5, .ref (aZ zi)), (0, .ref x), (1, .int (iI ((zi : Int)))), (2, .long (lL t)), (4, .int (iI w))]) hx hb d_Clk_field_5 hl (by decide) rfl (fun ls hl => ?_)
      refine lv_lload_n hx hb d_Clk_field_7 rfl (lv_at hl 3 rfl) ?_
      refine v_callS (rest := []) hx hb (hml.trans hl.1.symm) hown hk hK k_Clk_59 (ct_Clk_checkTime l D tys t (by omega) (by omega)) nil_P nil_D rfl rfl ⟨rfl, rfl⟩ ⟨by decide, by decide, by decide, by decide⟩ (Nat.le_of_ble_eq_true rfl) d_Clk_field_8 ?_
      refine lv_iload hx hb d_Clk_field_11 (lv_at hl 4 rfl) ?_
      refine ri_if_lt (tgt := 23) hx hb d_Clk_field_13 (by decide) (fun h13 => ?_) (fun h13 => ?_)
      · exact x_throw (rest := []) hx hb hlk (hml.trans hl.1.symm) hE hown hk hoff xw_Clk_41 hP hS hAS hZ d_Clk_field_23 d_Clk_field_26 d_Clk_field_27 d_Clk_field_30 (by rfl) rfl ⟨by decide, by decide, by decide, by decide⟩
      · refine lv_iload hx hb d_Clk_field_16 (lv_at hl 4 rfl) ?_
        refine lv_bipush (v := iI 8) hx hb d_Clk_field_18 (by decide) ?_
        refine ri_icmp_le (tgt := 31) hx hb d_Clk_field_20 (by decide) (fun h20 => ?_) (fun h20 => ?_)
        · exfalso; omega
        · exact x_throw (rest := []) hx hb hlk (hml.trans hl.1.symm) hE hown hk hoff xw_Clk_41 hP hS hAS hZ d_Clk_field_23 d_Clk_field_26 d_Clk_field_27 d_Clk_field_30 (by rfl) rfl ⟨by decide, by decide, by decide, by decide⟩
    · skip
      refine lv_aload_n hx hb d_Clk_field_0 rfl (lv_at hl 0 rfl) ?_
      refine lv_iload_n hx hb d_Clk_field_1 rfl (lv_at hl 1 rfl) ?_
      refine p_callV (rest := []) (q0 := 0) hx hb (hml.trans hl.1.symm) hown hk hK k_Clk_44 (ct_Clk_zoneAt l D tys x tp dr za bp cZ aZ zi htz (by omega)) (w_subP (is := [0, 1]) hP rfl) (w_subD (is := [0, 1]) hD rfl rfl) rfl rfl rfl rfl ⟨rfl, rfl⟩ ⟨by decide, by decide, by decide, by decide⟩ (Nat.le_of_ble_eq_true rfl) d_Clk_field_2 ?_
      refine lv_astore (lv' := [(5, .ref (aZ zi)), (0, .ref x), (1, .int (iI ((zi : Int)))), (2, .long (lL t)), (4, .int (iI w))]) hx hb d_Clk_field_5 hl (by decide) rfl (fun ls hl => ?_)
      refine lv_lload_n hx hb d_Clk_field_7 rfl (lv_at hl 3 rfl) ?_
      exact x_thr (x_runS (rest := []) hx hb (hml.trans hl.1.symm) hown hk hK k_Clk_59 (ct_Clk_checkTime_x l D tys aS hoff t (by omega) (by omega) (by omega)) nil_P nil_D (x_zH hZ hS hAS) rfl rfl ⟨by decide, by decide, by decide, by decide⟩ (Nat.le_of_ble_eq_true rfl) d_Clk_field_8) hE hlk hP hD hS [] rfl rfl (by rfl) rfl
  · skip
    refine lv_aload_n hx hb d_Clk_field_0 rfl (lv_at hl 0 rfl) ?_
    refine lv_iload_n hx hb d_Clk_field_1 rfl (lv_at hl 1 rfl) ?_
    exact x_thr (x_runV (rest := []) (q0 := 0) hx hb (hml.trans hl.1.symm) hown hk hK k_Clk_44 (ct_Clk_zoneAt_x l D tys aS hoff x tp dr za bp cZ aZ z htz (by omega) (by omega) (by omega)) (w_subP (is := [0, 1]) hP rfl) (x_subD (is := [0, 1]) hD hAS rfl rfl) (x_zH hZ hS hAS) rfl rfl rfl rfl ⟨by decide, by decide, by decide, by decide⟩ (Nat.le_of_ble_eq_true rfl) d_Clk_field_2) hE hlk hP hD hS [0, 1] rfl rfl (by rfl) rfl
abbrev rm_Clk_universal_n : Room := { frames := 7, cells := 1, slots := 6, locals := 141 }
set_option maxHeartbeats 4000000 in
set_option maxRecDepth 100000 in
theorem ct_Clk_universal_n (l : Launch) (D : va_G) (tys : List (ClassId × FieldType)) (aS : Nat) (hoff : l.stackTraces = false) (x : Nat) (tp : Nat) (dr : Nat) (za : Nat) (bp : Int) (cZ : ClassId) (aZ : Nat → Nat) (zi : Nat) (b0 : Nat) (e0 : Nat) (off : Int) (sv : Int) (b1 : Int) (b2 : Int) (b3 : Int) (b4 : Int) (e1 : Int) (e2 : Int) (e3 : Int) (e4 : Int) (t : Int) (lt : Bool) (htz : tys[4]? = some (cZ, .object "ZoneClock$Zone")) (gz : zi < 8) (go1 : -840 ≤ off) (go2 : off ≤ 840) (gs1 : 0 ≤ sv) (gs2 : sv ≤ 120) (gb : 0 < sv → rOk b1 b2 b3 b4) (ge : 0 < sv → rOk e1 e2 e3 e4) (gt1 : 0 ≤ t) (gt2 : t ≤ 10413791999999) (gq : aIn off sv (b1, b2, b3, b4) (e1, e2, e3, e4) t + aOut off sv (b1, b2, b3, b4) (e1, e2, e3, e4) t = 0) : xMet l y_Clk_universal c_Clk_universal 9 (some .long) rm_Clk_universal_n D tys aS [.ref x, .int (iI ((zi : Int))), .long (lL t), .int (iI (bI lt))] [(x, .inr (3, [.ref tp, .ref dr, .ref za, .int (iI bp)])), (za, .inl (cZ, 8, .inr (.inr (.inr (.inr (fun k => some (aZ k))))))), (aZ zi, .inr (2, [.int (iI off), .int (iI sv), .ref b0, .ref e0])), (b0, .inr (0, [.int (iI b1), .int (iI b2), .int (iI b3), .int (iI b4)])), (e0, .inr (0, [.int (iI e1), .int (iI e2), .int (iI e3), .int (iI e4)]))] none "java/util/NoSuchElementException" [(x, .inr (3, [.ref tp, .ref dr, .ref za, .int (iI bp)])), (za, .inl (cZ, 8, .inr (.inr (.inr (.inr (fun k => some (aZ k))))))), (aZ zi, .inr (2, [.int (iI off), .int (iI sv), .ref b0, .ref e0])), (b0, .inr (0, [.int (iI b1), .int (iI b2), .int (iI b3), .int (iI b4)])), (e0, .inr (0, [.int (iI e1), .int (iI e2), .int (iI e3), .int (iI e4)]))] := by
  refine xMet_of (by decide) (Nat.le_of_ble_eq_true rfl) ?_
  intro p e s m below meth c hx hb hr hown hlk hml hE hk hK hP hD hS hAS hZ ls hl
  have hl : lv_has ls 9 [(0, .ref x), (1, .int (iI ((zi : Int)))), (2, .long (lL t)), (4, .int (iI (bI lt)))] := hl
  have gI := bI_b (cSum off sv (b1, b2, b3, b4) (e1, e2, e3, e4) (t - (off + sv) * 60000))
  have gO := bI_b (!cSum off sv (b1, b2, b3, b4) (e1, e2, e3, e4) (t - off * 60000))
  unfold aIn aOut at gq
  refine lv_aload_n hx hb d_Clk_universal_0 rfl (lv_at hl 0 rfl) ?_
  refine lv_iload_n hx hb d_Clk_universal_1 rfl (lv_at hl 1 rfl) ?_
  refine p_callV (rest := []) (q0 := 0) hx hb (hml.trans hl.1.symm) hown hk hK k_Clk_44 (ct_Clk_zoneAt l D tys x tp dr za bp cZ aZ zi htz (by omega)) (w_subP (is := [0, 1]) hP rfl) (w_subD (is := [0, 1]) hD rfl rfl) rfl rfl rfl rfl ⟨rfl, rfl⟩ ⟨by decide, by decide, by decide, by decide⟩ (Nat.le_of_ble_eq_true rfl) d_Clk_universal_2 ?_
  refine lv_astore (lv' := [(5, .ref (aZ zi)), (0, .ref x), (1, .int (iI ((zi : Int)))), (2, .long (lL t)), (4, .int (iI (bI lt)))]) hx hb d_Clk_universal_5 hl (by decide) rfl (fun ls hl => ?_)
  refine lv_lload_n hx hb d_Clk_universal_7 rfl (lv_at hl 3 rfl) ?_
  refine v_callS (rest := []) hx hb (hml.trans hl.1.symm) hown hk hK k_Clk_59 (ct_Clk_checkTime l D tys t (by omega) (by omega)) nil_P nil_D rfl rfl ⟨rfl, rfl⟩ ⟨by decide, by decide, by decide, by decide⟩ (Nat.le_of_ble_eq_true rfl) d_Clk_universal_8 ?_
  refine lv_aload hx hb d_Clk_universal_11 (lv_at hl 0 rfl) ?_
  refine lv_lload_n hx hb d_Clk_universal_13 rfl (lv_at hl 3 rfl) ?_
  refine p_callV (rest := []) (q0 := 0) hx hb (hml.trans hl.1.symm) hown hk hK k_Clk_69 (ct_Zone_isReadInSummer l D tys (aZ zi) b0 e0 off sv b1 b2 b3 b4 e1 e2 e3 e4 t (by omega) (by omega) (by omega) (by omega) gb ge (by omega) (by omega)) (w_subP (is := [2, 3, 4]) hP rfl) (w_subD (is := [2, 3, 4]) hD rfl rfl) rfl rfl rfl rfl ⟨rfl, rfl⟩ ⟨by decide, by decide, by decide, by decide⟩ (Nat.le_of_ble_eq_true rfl) d_Clk_universal_14 ?_
  refine lv_istore (lv' := [(6, .int (iI (bI (cSum off sv (b1, b2, b3, b4) (e1, e2, e3, e4) (t - (off + sv) * 60000))))), (5, .ref (aZ zi)), (0, .ref x), (1, .int (iI ((zi : Int)))), (2, .long (lL t)), (4, .int (iI (bI lt)))]) hx hb d_Clk_universal_17 hl (by decide) rfl (fun ls hl => ?_)
  refine lv_aload hx hb d_Clk_universal_19 (lv_at hl 1 rfl) ?_
  refine lv_lload_n hx hb d_Clk_universal_21 rfl (lv_at hl 4 rfl) ?_
  refine p_callV (rest := []) (q0 := 0) hx hb (hml.trans hl.1.symm) hown hk hK k_Clk_73 (ct_Zone_isReadOutsideSummer l D tys (aZ zi) b0 e0 off sv b1 b2 b3 b4 e1 e2 e3 e4 t (by omega) (by omega) (by omega) (by omega) gb ge (by omega) (by omega)) (w_subP (is := [2, 3, 4]) hP rfl) (w_subD (is := [2, 3, 4]) hD rfl rfl) rfl rfl rfl rfl ⟨rfl, rfl⟩ ⟨by decide, by decide, by decide, by decide⟩ (Nat.le_of_ble_eq_true rfl) d_Clk_universal_22 ?_
  refine lv_istore (lv' := [(7, .int (iI (bI (!cSum off sv (b1, b2, b3, b4) (e1, e2, e3, e4) (t - off * 60000))))), (6, .int (iI (bI (cSum off sv (b1, b2, b3, b4) (e1, e2, e3, e4) (t - (off + sv) * 60000))))), (5, .ref (aZ zi)), (0, .ref x), (1, .int (iI ((zi : Int)))), (2, .long (lL t)), (4, .int (iI (bI lt)))]) hx hb d_Clk_universal_25 hl (by decide) rfl (fun ls hl => ?_)
  refine lv_iload hx hb d_Clk_universal_27 (lv_at hl 1 rfl) ?_
  refine ri_if_ne (tgt := 45) hx hb d_Clk_universal_29 (by decide) (fun h29 => ?_) (fun h29 => ?_)
  · exfalso; omega
  · refine lv_iload hx hb d_Clk_universal_32 (lv_at hl 0 rfl) ?_
    refine ri_if_ne (tgt := 45) hx hb d_Clk_universal_34 (by decide) (fun h34 => ?_) (fun h34 => ?_)
    · exfalso; omega
    · exact x_throw (rest := []) hx hb hlk (hml.trans hl.1.symm) hE hown hk hoff xw_Clk_76 hP hS hAS hZ d_Clk_universal_37 d_Clk_universal_40 d_Clk_universal_41 d_Clk_universal_44 (by rfl) rfl ⟨by decide, by decide, by decide, by decide⟩
abbrev rm_Clk_feed : Room := { frames := 1, cells := 0, slots := 0, locals := 22 }
set_option maxHeartbeats 4000000 in
set_option maxRecDepth 100000 in
theorem ct_Clk_feed (l : Launch) (D : va_G) (tys : List (ClassId × FieldType)) (x : Nat) (tp : Nat) (dr : Nat) (za : Nat) (bp : Int) (ba : Nat) (cB : ClassId) (nn : Nat) (i : Nat) (bk : Bool) (f : Nat → Int32) (k1 : Int32) (k2 : Int32) (k3 : Int32) (k4 : Int32) (k5 : Int32) (hty : tys[0]? = some (cB, .byte)) (gn : nn ≤ 380) : mMet l y_Clk_feed c_Clk_feed 6 (some .int) rm_Clk_feed D tys [.ref x, .int k1, .int k2, .int k3, .int k4, .int k5] [(x, .inr (3, [.ref tp, .ref dr, .ref za, .int (iI bp)])), (tp, .inr (1, [.ref ba, .int (iI ((nn : Int))), .int (iI ((i : Int))), .int (iI (bI bk))])), (ba, .inl (cB, 400, .inl f))] (some (.int (iI (((nn + 20 : Nat) : Int))))) [(x, .inr (3, [.ref tp, .ref dr, .ref za, .int (iI bp)])), (tp, .inr (1, [.ref ba, .int (iI (((nn + 20 : Nat) : Int))), .int (iI ((i : Int))), .int (iI (bI bk))])), (ba, .inl (cB, 400, .inl (ap20 f nn k1 k2 k3 k4 k5)))] := by
  refine mMet_of (by decide) (Nat.le_of_ble_eq_true rfl) ?_
  intro p e s m below meth c hx hb hr hown hlk hml hk hK hP hD hS ls hl
  have hl : lv_has ls 6 [(0, .ref x), (1, .int k1), (2, .int k2), (3, .int k3), (4, .int k4), (5, .int k5)] := hl
  refine lv_aload_n hx hb d_Clk_feed_0 rfl (lv_at hl 0 rfl) ?_
  refine g_get hx hb hk hown hK hP 0 rfl f_Clk_10 rfl d_Clk_feed_1 ?_
  refine g_getN hx hb hk hown hK hP 1 rfl f_Clk_31 rfl d_Clk_feed_4 ?_
  refine lv_sipush (v := iI 380) hx hb d_Clk_feed_7 (by decide) ?_
  refine ri_icmp_le (tgt := 21) hx hb d_Clk_feed_10 (by decide) (fun h10 => ?_) (fun h10 => ?_)
  · refine lv_aload_n hx hb d_Clk_feed_21 rfl (lv_at hl 0 rfl) ?_
    refine g_get hx hb hk hown hK hP 0 rfl f_Clk_10 rfl d_Clk_feed_22 ?_
    refine lv_iload_n hx hb d_Clk_feed_25 rfl (lv_at hl 1 rfl) ?_
    refine m_callV (rest := []) (q0 := 0) hx hb (hml.trans hl.1.symm) hown hk hK k_Clk_37 (ct_Tape_append l D tys tp ba cB nn i bk f k1 hty (by omega)) hP hD hS [1, 2] rfl rfl rfl rfl rfl rfl rfl ⟨rfl, rfl⟩ ⟨by decide, by decide, by decide, by decide⟩ (Nat.le_of_ble_eq_true rfl) d_Clk_feed_26 (fun H locs hP hD hS => ?_)
    have hP : va_P D vwCl [(x, .inr (3, [.ref tp, .ref dr, .ref za, .int (iI bp)])), (tp, .inr (1, [.ref ba, .int (iI (((nn + 4 : Nat) : Int))), .int (iI ((i : Int))), .int (iI (bI bk))])), (ba, .inl (cB, 400, .inl (ap4 f nn k1)))] H := hP
    have hD : va_D (wA [(x, .inr (3, [.ref tp, .ref dr, .ref za, .int (iI bp)])), (tp, .inr (1, [.ref ba, .int (iI ((nn : Int))), .int (iI ((i : Int))), .int (iI (bI bk))])), (ba, .inl (cB, 400, .inl f))]) [(x, .inr (3, [.ref tp, .ref dr, .ref za, .int (iI bp)])), (tp, .inr (1, [.ref ba, .int (iI (((nn + 4 : Nat) : Int))), .int (iI ((i : Int))), .int (iI (bI bk))])), (ba, .inl (cB, 400, .inl (ap4 f nn k1)))] := hD
    refine lv_aload_n hx hb d_Clk_feed_29 rfl (lv_at hl 0 rfl) ?_
    refine g_get hx hb hk hown hK hP 0 rfl f_Clk_10 rfl d_Clk_feed_30 ?_
    refine lv_iload_n hx hb d_Clk_feed_33 rfl (lv_at hl 2 rfl) ?_
    refine m_callV (rest := []) (q0 := 0) hx hb (hml.trans hl.1.symm) hown hk hK k_Clk_37 (ct_Tape_append l D tys tp ba cB (nn + 4) i bk (ap4 f nn k1) k2 hty (by omega)) hP hD hS [1, 2] rfl rfl rfl rfl rfl rfl rfl ⟨rfl, rfl⟩ ⟨by decide, by decide, by decide, by decide⟩ (Nat.le_of_ble_eq_true rfl) d_Clk_feed_34 (fun H locs hP hD hS => ?_)
    have hP : va_P D vwCl [(x, .inr (3, [.ref tp, .ref dr, .ref za, .int (iI bp)])), (tp, .inr (1, [.ref ba, .int (iI ((((nn + 4) + 4 : Nat) : Int))), .int (iI ((i : Int))), .int (iI (bI bk))])), (ba, .inl (cB, 400, .inl (ap4 (ap4 f nn k1) (nn + 4) k2)))] H := hP
    have hD : va_D (wA [(x, .inr (3, [.ref tp, .ref dr, .ref za, .int (iI bp)])), (tp, .inr (1, [.ref ba, .int (iI ((nn : Int))), .int (iI ((i : Int))), .int (iI (bI bk))])), (ba, .inl (cB, 400, .inl f))]) [(x, .inr (3, [.ref tp, .ref dr, .ref za, .int (iI bp)])), (tp, .inr (1, [.ref ba, .int (iI ((((nn + 4) + 4 : Nat) : Int))), .int (iI ((i : Int))), .int (iI (bI bk))])), (ba, .inl (cB, 400, .inl (ap4 (ap4 f nn k1) (nn + 4) k2)))] := hD
    refine lv_aload_n hx hb d_Clk_feed_37 rfl (lv_at hl 0 rfl) ?_
    refine g_get hx hb hk hown hK hP 0 rfl f_Clk_10 rfl d_Clk_feed_38 ?_
    refine lv_iload_n hx hb d_Clk_feed_41 rfl (lv_at hl 3 rfl) ?_
    refine m_callV (rest := []) (q0 := 0) hx hb (hml.trans hl.1.symm) hown hk hK k_Clk_37 (ct_Tape_append l D tys tp ba cB ((nn + 4) + 4) i bk (ap4 (ap4 f nn k1) (nn + 4) k2) k3 hty (by omega)) hP hD hS [1, 2] rfl rfl rfl rfl rfl rfl rfl ⟨rfl, rfl⟩ ⟨by decide, by decide, by decide, by decide⟩ (Nat.le_of_ble_eq_true rfl) d_Clk_feed_42 (fun H locs hP hD hS => ?_)
    have hP : va_P D vwCl [(x, .inr (3, [.ref tp, .ref dr, .ref za, .int (iI bp)])), (tp, .inr (1, [.ref ba, .int (iI (((((nn + 4) + 4) + 4 : Nat) : Int))), .int (iI ((i : Int))), .int (iI (bI bk))])), (ba, .inl (cB, 400, .inl (ap4 (ap4 (ap4 f nn k1) (nn + 4) k2) ((nn + 4) + 4) k3)))] H := hP
    have hD : va_D (wA [(x, .inr (3, [.ref tp, .ref dr, .ref za, .int (iI bp)])), (tp, .inr (1, [.ref ba, .int (iI ((nn : Int))), .int (iI ((i : Int))), .int (iI (bI bk))])), (ba, .inl (cB, 400, .inl f))]) [(x, .inr (3, [.ref tp, .ref dr, .ref za, .int (iI bp)])), (tp, .inr (1, [.ref ba, .int (iI (((((nn + 4) + 4) + 4 : Nat) : Int))), .int (iI ((i : Int))), .int (iI (bI bk))])), (ba, .inl (cB, 400, .inl (ap4 (ap4 (ap4 f nn k1) (nn + 4) k2) ((nn + 4) + 4) k3)))] := hD
    refine lv_aload_n hx hb d_Clk_feed_45 rfl (lv_at hl 0 rfl) ?_
    refine g_get hx hb hk hown hK hP 0 rfl f_Clk_10 rfl d_Clk_feed_46 ?_
    refine lv_iload hx hb d_Clk_feed_49 (lv_at hl 4 rfl) ?_
    refine m_callV (rest := []) (q0 := 0) hx hb (hml.trans hl.1.symm) hown hk hK k_Clk_37 (ct_Tape_append l D tys tp ba cB (((nn + 4) + 4) + 4) i bk (ap4 (ap4 (ap4 f nn k1) (nn + 4) k2) ((nn + 4) + 4) k3) k4 hty (by omega)) hP hD hS [1, 2] rfl rfl rfl rfl rfl rfl rfl ⟨rfl, rfl⟩ ⟨by decide, by decide, by decide, by decide⟩ (Nat.le_of_ble_eq_true rfl) d_Clk_feed_51 (fun H locs hP hD hS => ?_)
    have hP : va_P D vwCl [(x, .inr (3, [.ref tp, .ref dr, .ref za, .int (iI bp)])), (tp, .inr (1, [.ref ba, .int (iI ((((((nn + 4) + 4) + 4) + 4 : Nat) : Int))), .int (iI ((i : Int))), .int (iI (bI bk))])), (ba, .inl (cB, 400, .inl (ap4 (ap4 (ap4 (ap4 f nn k1) (nn + 4) k2) ((nn + 4) + 4) k3) (((nn + 4) + 4) + 4) k4)))] H := hP
    have hD : va_D (wA [(x, .inr (3, [.ref tp, .ref dr, .ref za, .int (iI bp)])), (tp, .inr (1, [.ref ba, .int (iI ((nn : Int))), .int (iI ((i : Int))), .int (iI (bI bk))])), (ba, .inl (cB, 400, .inl f))]) [(x, .inr (3, [.ref tp, .ref dr, .ref za, .int (iI bp)])), (tp, .inr (1, [.ref ba, .int (iI ((((((nn + 4) + 4) + 4) + 4 : Nat) : Int))), .int (iI ((i : Int))), .int (iI (bI bk))])), (ba, .inl (cB, 400, .inl (ap4 (ap4 (ap4 (ap4 f nn k1) (nn + 4) k2) ((nn + 4) + 4) k3) (((nn + 4) + 4) + 4) k4)))] := hD
    refine lv_aload_n hx hb d_Clk_feed_54 rfl (lv_at hl 0 rfl) ?_
    refine g_get hx hb hk hown hK hP 0 rfl f_Clk_10 rfl d_Clk_feed_55 ?_
    refine lv_iload hx hb d_Clk_feed_58 (lv_at hl 5 rfl) ?_
    refine m_callV (rest := []) (q0 := 0) hx hb (hml.trans hl.1.symm) hown hk hK k_Clk_37 (ct_Tape_append l D tys tp ba cB ((((nn + 4) + 4) + 4) + 4) i bk (ap4 (ap4 (ap4 (ap4 f nn k1) (nn + 4) k2) ((nn + 4) + 4) k3) (((nn + 4) + 4) + 4) k4) k5 hty (by omega)) hP hD hS [1, 2] rfl rfl rfl rfl rfl rfl rfl ⟨rfl, rfl⟩ ⟨by decide, by decide, by decide, by decide⟩ (Nat.le_of_ble_eq_true rfl) d_Clk_feed_60 (fun H locs hP hD hS => ?_)
    have hP : va_P D vwCl [(x, .inr (3, [.ref tp, .ref dr, .ref za, .int (iI bp)])), (tp, .inr (1, [.ref ba, .int (iI (((((((nn + 4) + 4) + 4) + 4) + 4 : Nat) : Int))), .int (iI ((i : Int))), .int (iI (bI bk))])), (ba, .inl (cB, 400, .inl (ap4 (ap4 (ap4 (ap4 (ap4 f nn k1) (nn + 4) k2) ((nn + 4) + 4) k3) (((nn + 4) + 4) + 4) k4) ((((nn + 4) + 4) + 4) + 4) k5)))] H := hP
    have hD : va_D (wA [(x, .inr (3, [.ref tp, .ref dr, .ref za, .int (iI bp)])), (tp, .inr (1, [.ref ba, .int (iI ((nn : Int))), .int (iI ((i : Int))), .int (iI (bI bk))])), (ba, .inl (cB, 400, .inl f))]) [(x, .inr (3, [.ref tp, .ref dr, .ref za, .int (iI bp)])), (tp, .inr (1, [.ref ba, .int (iI (((((((nn + 4) + 4) + 4) + 4) + 4 : Nat) : Int))), .int (iI ((i : Int))), .int (iI (bI bk))])), (ba, .inl (cB, 400, .inl (ap4 (ap4 (ap4 (ap4 (ap4 f nn k1) (nn + 4) k2) ((nn + 4) + 4) k3) (((nn + 4) + 4) + 4) k4) ((((nn + 4) + 4) + 4) + 4) k5)))] := hD
    refine lv_aload_n hx hb d_Clk_feed_63 rfl (lv_at hl 0 rfl) ?_
    refine g_get hx hb hk hown hK hP 0 rfl f_Clk_10 rfl d_Clk_feed_64 ?_
    refine g_getN hx hb hk hown hK hP 1 rfl f_Clk_31 rfl d_Clk_feed_67 ?_
    exact m_iret hx hb hr hlk hP hS d_Clk_feed_70 (by rfl) (by rfl)
  · exfalso; omega
abbrev rm_Clk_feed_x : Room := { frames := 6, cells := 1, slots := 6, locals := 100 }
set_option maxHeartbeats 4000000 in
set_option maxRecDepth 100000 in
theorem ct_Clk_feed_x (l : Launch) (D : va_G) (tys : List (ClassId × FieldType)) (aS : Nat) (hoff : l.stackTraces = false) (x : Nat) (tp : Nat) (dr : Nat) (za : Nat) (bp : Int) (ba : Nat) (cB : ClassId) (nn : Nat) (i : Nat) (bk : Bool) (f : Nat → Int32) (k1 : Int32) (k2 : Int32) (k3 : Int32) (k4 : Int32) (k5 : Int32) (gn : 380 < nn) (gn2 : nn ≤ 400) : xMet l y_Clk_feed c_Clk_feed 6 (some .int) rm_Clk_feed_x D tys aS [.ref x, .int k1, .int k2, .int k3, .int k4, .int k5] [(x, .inr (3, [.ref tp, .ref dr, .ref za, .int (iI bp)])), (tp, .inr (1, [.ref ba, .int (iI ((nn : Int))), .int (iI ((i : Int))), .int (iI (bI bk))])), (ba, .inl (cB, 400, .inl f))] none "java/lang/IndexOutOfBoundsException" [(x, .inr (3, [.ref tp, .ref dr, .ref za, .int (iI bp)])), (tp, .inr (1, [.ref ba, .int (iI ((nn : Int))), .int (iI ((i : Int))), .int (iI (bI bk))])), (ba, .inl (cB, 400, .inl f))] := by
  refine xMet_of (by decide) (Nat.le_of_ble_eq_true rfl) ?_
  intro p e s m below meth c hx hb hr hown hlk hml hE hk hK hP hD hS hAS hZ ls hl
  have hl : lv_has ls 6 [(0, .ref x), (1, .int k1), (2, .int k2), (3, .int k3), (4, .int k4), (5, .int k5)] := hl
  refine lv_aload_n hx hb d_Clk_feed_0 rfl (lv_at hl 0 rfl) ?_
  refine g_get hx hb hk hown hK hP 0 rfl f_Clk_10 rfl d_Clk_feed_1 ?_
  refine g_getN hx hb hk hown hK hP 1 rfl f_Clk_31 rfl d_Clk_feed_4 ?_
  refine lv_sipush (v := iI 380) hx hb d_Clk_feed_7 (by decide) ?_
  refine ri_icmp_le (tgt := 21) hx hb d_Clk_feed_10 (by decide) (fun h10 => ?_) (fun h10 => ?_)
  · exfalso; omega
  · exact x_throw (rest := []) hx hb hlk (hml.trans hl.1.symm) hE hown hk hoff xw_Clk_34 hP hS hAS hZ d_Clk_feed_13 d_Clk_feed_16 d_Clk_feed_17 d_Clk_feed_20 (by rfl) rfl ⟨by decide, by decide, by decide, by decide⟩
abbrev rm_Clk_end : Room := { frames := 0, cells := 0, slots := 0, locals := 0 }
set_option maxHeartbeats 4000000 in
set_option maxRecDepth 100000 in
theorem ct_Clk_end (l : Launch) (D : va_G) (tys : List (ClassId × FieldType)) (x : Nat) (tp : Nat) (dr : Nat) (za : Nat) (bp : Int) (ba : Nat) (cB : ClassId) (nn : Nat) (i : Nat) (bk : Bool) (f : Nat → Int32) (en : Nat) (gn : nn ≤ 400) (ge : en ≤ nn) : mMet l y_Clk_end c_Clk_end 2 (some .int) rm_Clk_end D tys [.ref x, .int (iI ((en : Int)))] [(x, .inr (3, [.ref tp, .ref dr, .ref za, .int (iI bp)])), (tp, .inr (1, [.ref ba, .int (iI ((nn : Int))), .int (iI ((i : Int))), .int (iI (bI bk))])), (ba, .inl (cB, 400, .inl f))] (some (.int (iI ((en : Int))))) [(x, .inr (3, [.ref tp, .ref dr, .ref za, .int (iI bp)])), (tp, .inr (1, [.ref ba, .int (iI ((en : Int))), .int (iI ((i : Int))), .int (iI (bI bk))])), (ba, .inl (cB, 400, .inl f))] := by
  refine mMet_of (by decide) (Nat.le_of_ble_eq_true rfl) ?_
  intro p e s m below meth c hx hb hr hown hlk hml hk hK hP hD hS ls hl
  have hl : lv_has ls 2 [(0, .ref x), (1, .int (iI ((en : Int))))] := hl
  refine lv_iload_n hx hb d_Clk_end_0 rfl (lv_at hl 1 rfl) ?_
  refine ri_if_lt (tgt := 15) hx hb d_Clk_end_1 (by decide) (fun h1 => ?_) (fun h1 => ?_)
  · exfalso; omega
  · refine lv_iload_n hx hb d_Clk_end_4 rfl (lv_at hl 1 rfl) ?_
    refine lv_aload_n hx hb d_Clk_end_5 rfl (lv_at hl 0 rfl) ?_
    refine g_get hx hb hk hown hK hP 0 rfl f_Clk_10 rfl d_Clk_end_6 ?_
    refine g_getN hx hb hk hown hK hP 1 rfl f_Clk_31 rfl d_Clk_end_9 ?_
    refine ri_icmp_le (tgt := 23) hx hb d_Clk_end_12 (by decide) (fun h12 => ?_) (fun h12 => ?_)
    · refine lv_aload_n hx hb d_Clk_end_23 rfl (lv_at hl 0 rfl) ?_
      refine g_get hx hb hk hown hK hP 0 rfl f_Clk_10 rfl d_Clk_end_24 ?_
      refine lv_iload_n hx hb d_Clk_end_27 rfl (lv_at hl 1 rfl) ?_
      refine g_putN hx hb hk hown hK hP hD hS 1 rfl f_Clk_31 fT_Tape rfl (rfl) rfl (Nat.le_of_ble_eq_true rfl) d_Clk_end_28 (fun H locs hP hD hS => ?_)
      have hP : va_P D vwCl [(x, .inr (3, [.ref tp, .ref dr, .ref za, .int (iI bp)])), (tp, .inr (1, [.ref ba, .int (iI ((en : Int))), .int (iI ((i : Int))), .int (iI (bI bk))])), (ba, .inl (cB, 400, .inl f))] H := hP
      have hD : va_D (wA [(x, .inr (3, [.ref tp, .ref dr, .ref za, .int (iI bp)])), (tp, .inr (1, [.ref ba, .int (iI ((nn : Int))), .int (iI ((i : Int))), .int (iI (bI bk))])), (ba, .inl (cB, 400, .inl f))]) [(x, .inr (3, [.ref tp, .ref dr, .ref za, .int (iI bp)])), (tp, .inr (1, [.ref ba, .int (iI ((en : Int))), .int (iI ((i : Int))), .int (iI (bI bk))])), (ba, .inl (cB, 400, .inl f))] := hD
      refine lv_iload_n hx hb d_Clk_end_31 rfl (lv_at hl 1 rfl) ?_
      exact m_iret hx hb hr hlk hP hS d_Clk_end_32 (by rfl) (by rfl)
    · exfalso; omega
abbrev rm_Clk_end_x : Room := { frames := 6, cells := 1, slots := 6, locals := 100 }
set_option maxHeartbeats 4000000 in
set_option maxRecDepth 100000 in
theorem ct_Clk_end_x (l : Launch) (D : va_G) (tys : List (ClassId × FieldType)) (aS : Nat) (hoff : l.stackTraces = false) (x : Nat) (tp : Nat) (dr : Nat) (za : Nat) (bp : Int) (ba : Nat) (cB : ClassId) (nn : Nat) (i : Nat) (bk : Bool) (f : Nat → Int32) (en : Int) (gn : nn ≤ 400) (gz1 : -2147483648 ≤ en) (gz2 : en ≤ 2147483647) (ge : en < 0 ∨ (nn : Int) < en) : xMet l y_Clk_end c_Clk_end 2 (some .int) rm_Clk_end_x D tys aS [.ref x, .int (iI en)] [(x, .inr (3, [.ref tp, .ref dr, .ref za, .int (iI bp)])), (tp, .inr (1, [.ref ba, .int (iI ((nn : Int))), .int (iI ((i : Int))), .int (iI (bI bk))])), (ba, .inl (cB, 400, .inl f))] none "java/lang/IllegalArgumentException" [(x, .inr (3, [.ref tp, .ref dr, .ref za, .int (iI bp)])), (tp, .inr (1, [.ref ba, .int (iI ((nn : Int))), .int (iI ((i : Int))), .int (iI (bI bk))])), (ba, .inl (cB, 400, .inl f))] := by
  refine xMet_of (by decide) (Nat.le_of_ble_eq_true rfl) ?_
  intro p e s m below meth c hx hb hr hown hlk hml hE hk hK hP hD hS hAS hZ ls hl
  have hl : lv_has ls 2 [(0, .ref x), (1, .int (iI en))] := hl
  refine lv_iload_n hx hb d_Clk_end_0 rfl (lv_at hl 1 rfl) ?_
  refine ri_if_lt (tgt := 15) hx hb d_Clk_end_1 (by decide) (fun h1 => ?_) (fun h1 => ?_)
  · exact x_throw (rest := []) hx hb hlk (hml.trans hl.1.symm) hE hown hk hoff xw_Clk_41 hP hS hAS hZ d_Clk_end_15 d_Clk_end_18 d_Clk_end_19 d_Clk_end_22 (by rfl) rfl ⟨by decide, by decide, by decide, by decide⟩
  · refine lv_iload_n hx hb d_Clk_end_4 rfl (lv_at hl 1 rfl) ?_
    refine lv_aload_n hx hb d_Clk_end_5 rfl (lv_at hl 0 rfl) ?_
    refine g_get hx hb hk hown hK hP 0 rfl f_Clk_10 rfl d_Clk_end_6 ?_
    refine g_getN hx hb hk hown hK hP 1 rfl f_Clk_31 rfl d_Clk_end_9 ?_
    refine ri_icmp_le (tgt := 23) hx hb d_Clk_end_12 (by decide) (fun h12 => ?_) (fun h12 => ?_)
    · exfalso; omega
    · exact x_throw (rest := []) hx hb hlk (hml.trans hl.1.symm) hE hown hk hoff xw_Clk_41 hP hS hAS hZ d_Clk_end_15 d_Clk_end_18 d_Clk_end_19 d_Clk_end_22 (by rfl) rfl ⟨by decide, by decide, by decide, by decide⟩
abbrev rm_Clk_zone : Room := { frames := 5, cells := 0, slots := 0, locals := 110 }
set_option maxHeartbeats 4000000 in
set_option maxRecDepth 100000 in
theorem ct_Clk_zone (l : Launch) (D : va_G) (tys : List (ClassId × FieldType)) (x : Nat) (tp : Nat) (dr : Nat) (za : Nat) (bp : Int) (cZ : ClassId) (aZ : Nat → Nat) (zi : Nat) (ba : Nat) (cB : ClassId) (nn : Nat) (i : Nat) (bk : Bool) (f : Nat → Int32) (db : Nat) (de : Nat) (doff : Int) (dsv : Int) (m1 : Int) (m2 : Int) (m3 : Int) (m4 : Int) (n1 : Int) (n2 : Int) (n3 : Int) (n4 : Int) (b0 : Nat) (e0 : Nat) (off : Int) (sv : Int) (b1 : Int) (b2 : Int) (b3 : Int) (b4 : Int) (e1 : Int) (e2 : Int) (e3 : Int) (e4 : Int) (htz : tys[4]? = some (cZ, .object "ZoneClock$Zone")) (hty : tys[0]? = some (cB, .byte)) (gz : zi < 8) (gn : nn ≤ 400) (gq : zBad nn f = false) : mMet l y_Clk_zone c_Clk_zone 3 none rm_Clk_zone D tys [.ref x, .int (iI ((zi : Int)))] [(x, .inr (3, [.ref tp, .ref dr, .ref za, .int (iI bp)])), (za, .inl (cZ, 8, .inr (.inr (.inr (.inr (fun k => some (aZ k))))))), (tp, .inr (1, [.ref ba, .int (iI ((nn : Int))), .int (iI ((i : Int))), .int (iI (bI bk))])), (ba, .inl (cB, 400, .inl f)), (dr, .inr (2, [.int (iI doff), .int (iI dsv), .ref db, .ref de])), (db, .inr (0, [.int (iI m1), .int (iI m2), .int (iI m3), .int (iI m4)])), (de, .inr (0, [.int (iI n1), .int (iI n2), .int (iI n3), .int (iI n4)])), (aZ zi, .inr (2, [.int (iI off), .int (iI sv), .ref b0, .ref e0])), (b0, .inr (0, [.int (iI b1), .int (iI b2), .int (iI b3), .int (iI b4)])), (e0, .inr (0, [.int (iI e1), .int (iI e2), .int (iI e3), .int (iI e4)]))] none [(x, .inr (3, [.ref tp, .ref dr, .ref za, .int (iI (-1))])), (za, .inl (cZ, 8, .inr (.inr (.inr (.inr (fun k => some (aZ k))))))), (tp, .inr (1, [.ref ba, .int (iI ((0 : Int))), .int (iI ((((zEnd nn f).1 : Nat) : Int))), .int (iI (bI (zBad nn f)))])), (ba, .inl (cB, 400, .inl f)), (dr, .inr (2, [.int (iI (zOff nn f)), .int (iI (zSave nn f)), .ref db, .ref de])), (db, .inr (0, [.int (iI ((rsel (zMore nn f) (zR1 nn f).1 (m1, m2, m3, m4)).1)), .int (iI ((rsel (zMore nn f) (zR1 nn f).1 (m1, m2, m3, m4)).2.1)), .int (iI ((rsel (zMore nn f) (zR1 nn f).1 (m1, m2, m3, m4)).2.2.1)), .int (iI ((rsel (zMore nn f) (zR1 nn f).1 (m1, m2, m3, m4)).2.2.2))])), (de, .inr (0, [.int (iI ((rsel (zMore nn f) (zR2 nn f).1 (n1, n2, n3, n4)).1)), .int (iI ((rsel (zMore nn f) (zR2 nn f).1 (n1, n2, n3, n4)).2.1)), .int (iI ((rsel (zMore nn f) (zR2 nn f).1 (n1, n2, n3, n4)).2.2.1)), .int (iI ((rsel (zMore nn f) (zR2 nn f).1 (n1, n2, n3, n4)).2.2.2))])), (aZ zi, .inr (2, [.int (iI (zOff nn f)), .int (iI (zSave nn f)), .ref b0, .ref e0])), (b0, .inr (0, [.int (iI ((rsel (zMore nn f) (zR1 nn f).1 (m1, m2, m3, m4)).1)), .int (iI ((rsel (zMore nn f) (zR1 nn f).1 (m1, m2, m3, m4)).2.1)), .int (iI ((rsel (zMore nn f) (zR1 nn f).1 (m1, m2, m3, m4)).2.2.1)), .int (iI ((rsel (zMore nn f) (zR1 nn f).1 (m1, m2, m3, m4)).2.2.2))])), (e0, .inr (0, [.int (iI ((rsel (zMore nn f) (zR2 nn f).1 (n1, n2, n3, n4)).1)), .int (iI ((rsel (zMore nn f) (zR2 nn f).1 (n1, n2, n3, n4)).2.1)), .int (iI ((rsel (zMore nn f) (zR2 nn f).1 (n1, n2, n3, n4)).2.2.1)), .int (iI ((rsel (zMore nn f) (zR2 nn f).1 (n1, n2, n3, n4)).2.2.2))]))] := by
  refine mMet_of (by decide) (Nat.le_of_ble_eq_true rfl) ?_
  intro p e s m below meth c hx hb hr hown hlk hml hk hK hP hD hS ls hl
  have hl : lv_has ls 3 [(0, .ref x), (1, .int (iI ((zi : Int))))] := hl
  have gE := zEnd_b nn f
  have gp := zPlace_ok gq
  refine lv_aload_n hx hb d_Clk_zone_0 rfl (lv_at hl 0 rfl) ?_
  refine lv_iload_n hx hb d_Clk_zone_1 rfl (lv_at hl 1 rfl) ?_
  refine p_callV (rest := []) (q0 := 0) hx hb (hml.trans hl.1.symm) hown hk hK k_Clk_44 (ct_Clk_zoneAt l D tys x tp dr za bp cZ aZ zi htz (by omega)) (w_subP (is := [0, 1]) hP rfl) (w_subD (is := [0, 1]) hD rfl rfl) rfl rfl rfl rfl ⟨rfl, rfl⟩ ⟨by decide, by decide, by decide, by decide⟩ (Nat.le_of_ble_eq_true rfl) d_Clk_zone_2 ?_
  refine lv_astore_n (lv' := [(2, .ref (aZ zi)), (0, .ref x), (1, .int (iI ((zi : Int))))]) hx hb d_Clk_zone_5 rfl hl (by decide) rfl (fun ls hl => ?_)
  refine lv_aload_n hx hb d_Clk_zone_6 rfl (lv_at hl 1 rfl) ?_
  refine lv_aload_n hx hb d_Clk_zone_7 rfl (lv_at hl 1 rfl) ?_
  refine g_get hx hb hk hown hK hP 0 rfl f_Clk_10 rfl d_Clk_zone_8 ?_
  refine lv_aload_n hx hb d_Clk_zone_11 rfl (lv_at hl 1 rfl) ?_
  refine g_get hx hb hk hown hK hP 0 rfl f_Clk_19 rfl d_Clk_zone_12 ?_
  refine m_callV (rest := [.ref x]) (q0 := 0) hx hb (hml.trans hl.1.symm) hown hk hK k_Clk_48 (ct_Tape_readZone l D tys tp ba cB nn i bk f dr db de doff dsv m1 m2 m3 m4 n1 n2 n3 n4 hty (by omega)) hP hD hS [2, 3, 4, 5, 6] rfl rfl rfl rfl rfl rfl rfl ⟨rfl, rfl⟩ ⟨by decide, by decide, by decide, by decide⟩ (Nat.le_of_ble_eq_true rfl) d_Clk_zone_15 (fun H locs hP hD hS => ?_)
  have hP : va_P D vwCl [(x, .inr (3, [.ref tp, .ref dr, .ref za, .int (iI bp)])), (za, .inl (cZ, 8, .inr (.inr (.inr (.inr (fun k => some (aZ k))))))), (tp, .inr (1, [.ref ba, .int (iI ((nn : Int))), .int (iI ((((zEnd nn f).1 : Nat) : Int))), .int (iI (bI (zBad nn f)))])), (ba, .inl (cB, 400, .inl f)), (dr, .inr (2, [.int (iI (zOff nn f)), .int (iI (zSave nn f)), .ref db, .ref de])), (db, .inr (0, [.int (iI ((rsel (zMore nn f) (zR1 nn f).1 (m1, m2, m3, m4)).1)), .int (iI ((rsel (zMore nn f) (zR1 nn f).1 (m1, m2, m3, m4)).2.1)), .int (iI ((rsel (zMore nn f) (zR1 nn f).1 (m1, m2, m3, m4)).2.2.1)), .int (iI ((rsel (zMore nn f) (zR1 nn f).1 (m1, m2, m3, m4)).2.2.2))])), (de, .inr (0, [.int (iI ((rsel (zMore nn f) (zR2 nn f).1 (n1, n2, n3, n4)).1)), .int (iI ((rsel (zMore nn f) (zR2 nn f).1 (n1, n2, n3, n4)).2.1)), .int (iI ((rsel (zMore nn f) (zR2 nn f).1 (n1, n2, n3, n4)).2.2.1)), .int (iI ((rsel (zMore nn f) (zR2 nn f).1 (n1, n2, n3, n4)).2.2.2))])), (aZ zi, .inr (2, [.int (iI off), .int (iI sv), .ref b0, .ref e0])), (b0, .inr (0, [.int (iI b1), .int (iI b2), .int (iI b3), .int (iI b4)])), (e0, .inr (0, [.int (iI e1), .int (iI e2), .int (iI e3), .int (iI e4)]))] H := hP
  have hD : va_D (wA [(x, .inr (3, [.ref tp, .ref dr, .ref za, .int (iI bp)])), (za, .inl (cZ, 8, .inr (.inr (.inr (.inr (fun k => some (aZ k))))))), (tp, .inr (1, [.ref ba, .int (iI ((nn : Int))), .int (iI ((i : Int))), .int (iI (bI bk))])), (ba, .inl (cB, 400, .inl f)), (dr, .inr (2, [.int (iI doff), .int (iI dsv), .ref db, .ref de])), (db, .inr (0, [.int (iI m1), .int (iI m2), .int (iI m3), .int (iI m4)])), (de, .inr (0, [.int (iI n1), .int (iI n2), .int (iI n3), .int (iI n4)])), (aZ zi, .inr (2, [.int (iI off), .int (iI sv), .ref b0, .ref e0])), (b0, .inr (0, [.int (iI b1), .int (iI b2), .int (iI b3), .int (iI b4)])), (e0, .inr (0, [.int (iI e1), .int (iI e2), .int (iI e3), .int (iI e4)]))]) [(x, .inr (3, [.ref tp, .ref dr, .ref za, .int (iI bp)])), (za, .inl (cZ, 8, .inr (.inr (.inr (.inr (fun k => some (aZ k))))))), (tp, .inr (1, [.ref ba, .int (iI ((nn : Int))), .int (iI ((((zEnd nn f).1 : Nat) : Int))), .int (iI (bI (zBad nn f)))])), (ba, .inl (cB, 400, .inl f)), (dr, .inr (2, [.int (iI (zOff nn f)), .int (iI (zSave nn f)), .ref db, .ref de])), (db, .inr (0, [.int (iI ((rsel (zMore nn f) (zR1 nn f).1 (m1, m2, m3, m4)).1)), .int (iI ((rsel (zMore nn f) (zR1 nn f).1 (m1, m2, m3, m4)).2.1)), .int (iI ((rsel (zMore nn f) (zR1 nn f).1 (m1, m2, m3, m4)).2.2.1)), .int (iI ((rsel (zMore nn f) (zR1 nn f).1 (m1, m2, m3, m4)).2.2.2))])), (de, .inr (0, [.int (iI ((rsel (zMore nn f) (zR2 nn f).1 (n1, n2, n3, n4)).1)), .int (iI ((rsel (zMore nn f) (zR2 nn f).1 (n1, n2, n3, n4)).2.1)), .int (iI ((rsel (zMore nn f) (zR2 nn f).1 (n1, n2, n3, n4)).2.2.1)), .int (iI ((rsel (zMore nn f) (zR2 nn f).1 (n1, n2, n3, n4)).2.2.2))])), (aZ zi, .inr (2, [.int (iI off), .int (iI sv), .ref b0, .ref e0])), (b0, .inr (0, [.int (iI b1), .int (iI b2), .int (iI b3), .int (iI b4)])), (e0, .inr (0, [.int (iI e1), .int (iI e2), .int (iI e3), .int (iI e4)]))] := hD
  refine g_put hx hb hk hown hK hP hD hS 0 rfl f_Clk_27 fT_Clk rfl (rfl) rfl (Nat.le_of_ble_eq_true rfl) d_Clk_zone_18 (fun H locs hP hD hS => ?_)
  have hP : va_P D vwCl [(x, .inr (3, [.ref tp, .ref dr, .ref za, .int (iI (zPlace nn f))])), (za, .inl (cZ, 8, .inr (.inr (.inr (.inr (fun k => some (aZ k))))))), (tp, .inr (1, [.ref ba, .int (iI ((nn : Int))), .int (iI ((((zEnd nn f).1 : Nat) : Int))), .int (iI (bI (zBad nn f)))])), (ba, .inl (cB, 400, .inl f)), (dr, .inr (2, [.int (iI (zOff nn f)), .int (iI (zSave nn f)), .ref db, .ref de])), (db, .inr (0, [.int (iI ((rsel (zMore nn f) (zR1 nn f).1 (m1, m2, m3, m4)).1)), .int (iI ((rsel (zMore nn f) (zR1 nn f).1 (m1, m2, m3, m4)).2.1)), .int (iI ((rsel (zMore nn f) (zR1 nn f).1 (m1, m2, m3, m4)).2.2.1)), .int (iI ((rsel (zMore nn f) (zR1 nn f).1 (m1, m2, m3, m4)).2.2.2))])), (de, .inr (0, [.int (iI ((rsel (zMore nn f) (zR2 nn f).1 (n1, n2, n3, n4)).1)), .int (iI ((rsel (zMore nn f) (zR2 nn f).1 (n1, n2, n3, n4)).2.1)), .int (iI ((rsel (zMore nn f) (zR2 nn f).1 (n1, n2, n3, n4)).2.2.1)), .int (iI ((rsel (zMore nn f) (zR2 nn f).1 (n1, n2, n3, n4)).2.2.2))])), (aZ zi, .inr (2, [.int (iI off), .int (iI sv), .ref b0, .ref e0])), (b0, .inr (0, [.int (iI b1), .int (iI b2), .int (iI b3), .int (iI b4)])), (e0, .inr (0, [.int (iI e1), .int (iI e2), .int (iI e3), .int (iI e4)]))] H := hP
  have hD : va_D (wA [(x, .inr (3, [.ref tp, .ref dr, .ref za, .int (iI bp)])), (za, .inl (cZ, 8, .inr (.inr (.inr (.inr (fun k => some (aZ k))))))), (tp, .inr (1, [.ref ba, .int (iI ((nn : Int))), .int (iI ((i : Int))), .int (iI (bI bk))])), (ba, .inl (cB, 400, .inl f)), (dr, .inr (2, [.int (iI doff), .int (iI dsv), .ref db, .ref de])), (db, .inr (0, [.int (iI m1), .int (iI m2), .int (iI m3), .int (iI m4)])), (de, .inr (0, [.int (iI n1), .int (iI n2), .int (iI n3), .int (iI n4)])), (aZ zi, .inr (2, [.int (iI off), .int (iI sv), .ref b0, .ref e0])), (b0, .inr (0, [.int (iI b1), .int (iI b2), .int (iI b3), .int (iI b4)])), (e0, .inr (0, [.int (iI e1), .int (iI e2), .int (iI e3), .int (iI e4)]))]) [(x, .inr (3, [.ref tp, .ref dr, .ref za, .int (iI (zPlace nn f))])), (za, .inl (cZ, 8, .inr (.inr (.inr (.inr (fun k => some (aZ k))))))), (tp, .inr (1, [.ref ba, .int (iI ((nn : Int))), .int (iI ((((zEnd nn f).1 : Nat) : Int))), .int (iI (bI (zBad nn f)))])), (ba, .inl (cB, 400, .inl f)), (dr, .inr (2, [.int (iI (zOff nn f)), .int (iI (zSave nn f)), .ref db, .ref de])), (db, .inr (0, [.int (iI ((rsel (zMore nn f) (zR1 nn f).1 (m1, m2, m3, m4)).1)), .int (iI ((rsel (zMore nn f) (zR1 nn f).1 (m1, m2, m3, m4)).2.1)), .int (iI ((rsel (zMore nn f) (zR1 nn f).1 (m1, m2, m3, m4)).2.2.1)), .int (iI ((rsel (zMore nn f) (zR1 nn f).1 (m1, m2, m3, m4)).2.2.2))])), (de, .inr (0, [.int (iI ((rsel (zMore nn f) (zR2 nn f).1 (n1, n2, n3, n4)).1)), .int (iI ((rsel (zMore nn f) (zR2 nn f).1 (n1, n2, n3, n4)).2.1)), .int (iI ((rsel (zMore nn f) (zR2 nn f).1 (n1, n2, n3, n4)).2.2.1)), .int (iI ((rsel (zMore nn f) (zR2 nn f).1 (n1, n2, n3, n4)).2.2.2))])), (aZ zi, .inr (2, [.int (iI off), .int (iI sv), .ref b0, .ref e0])), (b0, .inr (0, [.int (iI b1), .int (iI b2), .int (iI b3), .int (iI b4)])), (e0, .inr (0, [.int (iI e1), .int (iI e2), .int (iI e3), .int (iI e4)]))] := hD
  refine lv_aload_n hx hb d_Clk_zone_21 rfl (lv_at hl 1 rfl) ?_
  refine g_get hx hb hk hown hK hP 0 rfl f_Clk_10 rfl d_Clk_zone_22 ?_
  refine lv_iconst (v := iI 0) hx hb d_Clk_zone_25 rfl ?_
  refine g_putN hx hb hk hown hK hP hD hS 2 rfl f_Clk_31 fT_Tape rfl (rfl) rfl (Nat.le_of_ble_eq_true rfl) d_Clk_zone_26 (fun H locs hP hD hS => ?_)
  have hP : va_P D vwCl [(x, .inr (3, [.ref tp, .ref dr, .ref za, .int (iI (zPlace nn f))])), (za, .inl (cZ, 8, .inr (.inr (.inr (.inr (fun k => some (aZ k))))))), (tp, .inr (1, [.ref ba, .int (iI 0), .int (iI ((((zEnd nn f).1 : Nat) : Int))), .int (iI (bI (zBad nn f)))])), (ba, .inl (cB, 400, .inl f)), (dr, .inr (2, [.int (iI (zOff nn f)), .int (iI (zSave nn f)), .ref db, .ref de])), (db, .inr (0, [.int (iI ((rsel (zMore nn f) (zR1 nn f).1 (m1, m2, m3, m4)).1)), .int (iI ((rsel (zMore nn f) (zR1 nn f).1 (m1, m2, m3, m4)).2.1)), .int (iI ((rsel (zMore nn f) (zR1 nn f).1 (m1, m2, m3, m4)).2.2.1)), .int (iI ((rsel (zMore nn f) (zR1 nn f).1 (m1, m2, m3, m4)).2.2.2))])), (de, .inr (0, [.int (iI ((rsel (zMore nn f) (zR2 nn f).1 (n1, n2, n3, n4)).1)), .int (iI ((rsel (zMore nn f) (zR2 nn f).1 (n1, n2, n3, n4)).2.1)), .int (iI ((rsel (zMore nn f) (zR2 nn f).1 (n1, n2, n3, n4)).2.2.1)), .int (iI ((rsel (zMore nn f) (zR2 nn f).1 (n1, n2, n3, n4)).2.2.2))])), (aZ zi, .inr (2, [.int (iI off), .int (iI sv), .ref b0, .ref e0])), (b0, .inr (0, [.int (iI b1), .int (iI b2), .int (iI b3), .int (iI b4)])), (e0, .inr (0, [.int (iI e1), .int (iI e2), .int (iI e3), .int (iI e4)]))] H := hP
  have hD : va_D (wA [(x, .inr (3, [.ref tp, .ref dr, .ref za, .int (iI bp)])), (za, .inl (cZ, 8, .inr (.inr (.inr (.inr (fun k => some (aZ k))))))), (tp, .inr (1, [.ref ba, .int (iI ((nn : Int))), .int (iI ((i : Int))), .int (iI (bI bk))])), (ba, .inl (cB, 400, .inl f)), (dr, .inr (2, [.int (iI doff), .int (iI dsv), .ref db, .ref de])), (db, .inr (0, [.int (iI m1), .int (iI m2), .int (iI m3), .int (iI m4)])), (de, .inr (0, [.int (iI n1), .int (iI n2), .int (iI n3), .int (iI n4)])), (aZ zi, .inr (2, [.int (iI off), .int (iI sv), .ref b0, .ref e0])), (b0, .inr (0, [.int (iI b1), .int (iI b2), .int (iI b3), .int (iI b4)])), (e0, .inr (0, [.int (iI e1), .int (iI e2), .int (iI e3), .int (iI e4)]))]) [(x, .inr (3, [.ref tp, .ref dr, .ref za, .int (iI (zPlace nn f))])), (za, .inl (cZ, 8, .inr (.inr (.inr (.inr (fun k => some (aZ k))))))), (tp, .inr (1, [.ref ba, .int (iI 0), .int (iI ((((zEnd nn f).1 : Nat) : Int))), .int (iI (bI (zBad nn f)))])), (ba, .inl (cB, 400, .inl f)), (dr, .inr (2, [.int (iI (zOff nn f)), .int (iI (zSave nn f)), .ref db, .ref de])), (db, .inr (0, [.int (iI ((rsel (zMore nn f) (zR1 nn f).1 (m1, m2, m3, m4)).1)), .int (iI ((rsel (zMore nn f) (zR1 nn f).1 (m1, m2, m3, m4)).2.1)), .int (iI ((rsel (zMore nn f) (zR1 nn f).1 (m1, m2, m3, m4)).2.2.1)), .int (iI ((rsel (zMore nn f) (zR1 nn f).1 (m1, m2, m3, m4)).2.2.2))])), (de, .inr (0, [.int (iI ((rsel (zMore nn f) (zR2 nn f).1 (n1, n2, n3, n4)).1)), .int (iI ((rsel (zMore nn f) (zR2 nn f).1 (n1, n2, n3, n4)).2.1)), .int (iI ((rsel (zMore nn f) (zR2 nn f).1 (n1, n2, n3, n4)).2.2.1)), .int (iI ((rsel (zMore nn f) (zR2 nn f).1 (n1, n2, n3, n4)).2.2.2))])), (aZ zi, .inr (2, [.int (iI off), .int (iI sv), .ref b0, .ref e0])), (b0, .inr (0, [.int (iI b1), .int (iI b2), .int (iI b3), .int (iI b4)])), (e0, .inr (0, [.int (iI e1), .int (iI e2), .int (iI e3), .int (iI e4)]))] := hD
  refine lv_aload_n hx hb d_Clk_zone_29 rfl (lv_at hl 1 rfl) ?_
  refine g_get hx hb hk hown hK hP 0 rfl f_Clk_27 rfl d_Clk_zone_30 ?_
  refine lv_iconst (v := iI (-1)) hx hb d_Clk_zone_33 rfl ?_
  refine ri_icmp_eq (tgt := 45) hx hb d_Clk_zone_34 (by decide) (fun h34 => ?_) (fun h34 => ?_)
  · refine lv_aload_n hx hb d_Clk_zone_45 rfl (lv_at hl 0 rfl) ?_
    refine lv_aload_n hx hb d_Clk_zone_46 rfl (lv_at hl 1 rfl) ?_
    refine g_get hx hb hk hown hK hP 0 rfl f_Clk_19 rfl d_Clk_zone_47 ?_
    refine m_callV (rest := []) (q0 := 0) hx hb (hml.trans hl.1.symm) hown hk hK k_Clk_55 (ct_Zone_become l D tys (aZ zi) b0 e0 off sv b1 b2 b3 b4 e1 e2 e3 e4 dr db de (zOff nn f) (zSave nn f) ((rsel (zMore nn f) (zR1 nn f).1 (m1, m2, m3, m4)).1) ((rsel (zMore nn f) (zR1 nn f).1 (m1, m2, m3, m4)).2.1) ((rsel (zMore nn f) (zR1 nn f).1 (m1, m2, m3, m4)).2.2.1) ((rsel (zMore nn f) (zR1 nn f).1 (m1, m2, m3, m4)).2.2.2) ((rsel (zMore nn f) (zR2 nn f).1 (n1, n2, n3, n4)).1) ((rsel (zMore nn f) (zR2 nn f).1 (n1, n2, n3, n4)).2.1) ((rsel (zMore nn f) (zR2 nn f).1 (n1, n2, n3, n4)).2.2.1) ((rsel (zMore nn f) (zR2 nn f).1 (n1, n2, n3, n4)).2.2.2) ) hP hD hS [7, 8, 9, 4, 5, 6] rfl rfl rfl rfl rfl rfl rfl ⟨rfl, rfl⟩ ⟨by decide, by decide, by decide, by decide⟩ (Nat.le_of_ble_eq_true rfl) d_Clk_zone_50 (fun H locs hP hD hS => ?_)
    have hP : va_P D vwCl [(x, .inr (3, [.ref tp, .ref dr, .ref za, .int (iI (zPlace nn f))])), (za, .inl (cZ, 8, .inr (.inr (.inr (.inr (fun k => some (aZ k))))))), (tp, .inr (1, [.ref ba, .int (iI 0), .int (iI ((((zEnd nn f).1 : Nat) : Int))), .int (iI (bI (zBad nn f)))])), (ba, .inl (cB, 400, .inl f)), (dr, .inr (2, [.int (iI ((zOff nn f))), .int (iI ((zSave nn f))), .ref db, .ref de])), (db, .inr (0, [.int (iI (((rsel (zMore nn f) (zR1 nn f).1 (m1, m2, m3, m4)).1))), .int (iI (((rsel (zMore nn f) (zR1 nn f).1 (m1, m2, m3, m4)).2.1))), .int (iI (((rsel (zMore nn f) (zR1 nn f).1 (m1, m2, m3, m4)).2.2.1))), .int (iI (((rsel (zMore nn f) (zR1 nn f).1 (m1, m2, m3, m4)).2.2.2)))])), (de, .inr (0, [.int (iI (((rsel (zMore nn f) (zR2 nn f).1 (n1, n2, n3, n4)).1))), .int (iI (((rsel (zMore nn f) (zR2 nn f).1 (n1, n2, n3, n4)).2.1))), .int (iI (((rsel (zMore nn f) (zR2 nn f).1 (n1, n2, n3, n4)).2.2.1))), .int (iI (((rsel (zMore nn f) (zR2 nn f).1 (n1, n2, n3, n4)).2.2.2)))])), ((aZ zi), .inr (2, [.int (iI ((zOff nn f))), .int (iI ((zSave nn f))), .ref b0, .ref e0])), (b0, .inr (0, [.int (iI (((rsel (zMore nn f) (zR1 nn f).1 (m1, m2, m3, m4)).1))), .int (iI (((rsel (zMore nn f) (zR1 nn f).1 (m1, m2, m3, m4)).2.1))), .int (iI (((rsel (zMore nn f) (zR1 nn f).1 (m1, m2, m3, m4)).2.2.1))), .int (iI (((rsel (zMore nn f) (zR1 nn f).1 (m1, m2, m3, m4)).2.2.2)))])), (e0, .inr (0, [.int (iI (((rsel (zMore nn f) (zR2 nn f).1 (n1, n2, n3, n4)).1))), .int (iI (((rsel (zMore nn f) (zR2 nn f).1 (n1, n2, n3, n4)).2.1))), .int (iI (((rsel (zMore nn f) (zR2 nn f).1 (n1, n2, n3, n4)).2.2.1))), .int (iI (((rsel (zMore nn f) (zR2 nn f).1 (n1, n2, n3, n4)).2.2.2)))]))] H := hP
    have hD : va_D (wA [(x, .inr (3, [.ref tp, .ref dr, .ref za, .int (iI bp)])), (za, .inl (cZ, 8, .inr (.inr (.inr (.inr (fun k => some (aZ k))))))), (tp, .inr (1, [.ref ba, .int (iI ((nn : Int))), .int (iI ((i : Int))), .int (iI (bI bk))])), (ba, .inl (cB, 400, .inl f)), (dr, .inr (2, [.int (iI doff), .int (iI dsv), .ref db, .ref de])), (db, .inr (0, [.int (iI m1), .int (iI m2), .int (iI m3), .int (iI m4)])), (de, .inr (0, [.int (iI n1), .int (iI n2), .int (iI n3), .int (iI n4)])), (aZ zi, .inr (2, [.int (iI off), .int (iI sv), .ref b0, .ref e0])), (b0, .inr (0, [.int (iI b1), .int (iI b2), .int (iI b3), .int (iI b4)])), (e0, .inr (0, [.int (iI e1), .int (iI e2), .int (iI e3), .int (iI e4)]))]) [(x, .inr (3, [.ref tp, .ref dr, .ref za, .int (iI (zPlace nn f))])), (za, .inl (cZ, 8, .inr (.inr (.inr (.inr (fun k => some (aZ k))))))), (tp, .inr (1, [.ref ba, .int (iI 0), .int (iI ((((zEnd nn f).1 : Nat) : Int))), .int (iI (bI (zBad nn f)))])), (ba, .inl (cB, 400, .inl f)), (dr, .inr (2, [.int (iI ((zOff nn f))), .int (iI ((zSave nn f))), .ref db, .ref de])), (db, .inr (0, [.int (iI (((rsel (zMore nn f) (zR1 nn f).1 (m1, m2, m3, m4)).1))), .int (iI (((rsel (zMore nn f) (zR1 nn f).1 (m1, m2, m3, m4)).2.1))), .int (iI (((rsel (zMore nn f) (zR1 nn f).1 (m1, m2, m3, m4)).2.2.1))), .int (iI (((rsel (zMore nn f) (zR1 nn f).1 (m1, m2, m3, m4)).2.2.2)))])), (de, .inr (0, [.int (iI (((rsel (zMore nn f) (zR2 nn f).1 (n1, n2, n3, n4)).1))), .int (iI (((rsel (zMore nn f) (zR2 nn f).1 (n1, n2, n3, n4)).2.1))), .int (iI (((rsel (zMore nn f) (zR2 nn f).1 (n1, n2, n3, n4)).2.2.1))), .int (iI (((rsel (zMore nn f) (zR2 nn f).1 (n1, n2, n3, n4)).2.2.2)))])), ((aZ zi), .inr (2, [.int (iI ((zOff nn f))), .int (iI ((zSave nn f))), .ref b0, .ref e0])), (b0, .inr (0, [.int (iI (((rsel (zMore nn f) (zR1 nn f).1 (m1, m2, m3, m4)).1))), .int (iI (((rsel (zMore nn f) (zR1 nn f).1 (m1, m2, m3, m4)).2.1))), .int (iI (((rsel (zMore nn f) (zR1 nn f).1 (m1, m2, m3, m4)).2.2.1))), .int (iI (((rsel (zMore nn f) (zR1 nn f).1 (m1, m2, m3, m4)).2.2.2)))])), (e0, .inr (0, [.int (iI (((rsel (zMore nn f) (zR2 nn f).1 (n1, n2, n3, n4)).1))), .int (iI (((rsel (zMore nn f) (zR2 nn f).1 (n1, n2, n3, n4)).2.1))), .int (iI (((rsel (zMore nn f) (zR2 nn f).1 (n1, n2, n3, n4)).2.2.1))), .int (iI (((rsel (zMore nn f) (zR2 nn f).1 (n1, n2, n3, n4)).2.2.2)))]))] := hD
    exact m_vret hx hb hr hlk hP hS d_Clk_zone_53 (by rw [gp])
  · exfalso; omega
abbrev rm_Clk_zone_u : Room := { frames := 6, cells := 1, slots := 6, locals := 121 }
set_option maxHeartbeats 4000000 in
set_option maxRecDepth 100000 in
theorem ct_Clk_zone_u (l : Launch) (D : va_G) (tys : List (ClassId × FieldType)) (aS : Nat) (hoff : l.stackTraces = false) (x : Nat) (tp : Nat) (dr : Nat) (za : Nat) (bp : Int) (cZ : ClassId) (aZ : Nat → Nat) (zi : Nat) (ba : Nat) (cB : ClassId) (nn : Nat) (i : Nat) (bk : Bool) (f : Nat → Int32) (db : Nat) (de : Nat) (doff : Int) (dsv : Int) (m1 : Int) (m2 : Int) (m3 : Int) (m4 : Int) (n1 : Int) (n2 : Int) (n3 : Int) (n4 : Int) (b0 : Nat) (e0 : Nat) (off : Int) (sv : Int) (b1 : Int) (b2 : Int) (b3 : Int) (b4 : Int) (e1 : Int) (e2 : Int) (e3 : Int) (e4 : Int) (htz : tys[4]? = some (cZ, .object "ZoneClock$Zone")) (hty : tys[0]? = some (cB, .byte)) (gz : zi < 8) (gn : nn ≤ 400) (gq : zBad nn f = true) : xMet l y_Clk_zone c_Clk_zone 3 none rm_Clk_zone_u D tys aS [.ref x, .int (iI ((zi : Int)))] [(x, .inr (3, [.ref tp, .ref dr, .ref za, .int (iI bp)])), (za, .inl (cZ, 8, .inr (.inr (.inr (.inr (fun k => some (aZ k))))))), (tp, .inr (1, [.ref ba, .int (iI ((nn : Int))), .int (iI ((i : Int))), .int (iI (bI bk))])), (ba, .inl (cB, 400, .inl f)), (dr, .inr (2, [.int (iI doff), .int (iI dsv), .ref db, .ref de])), (db, .inr (0, [.int (iI m1), .int (iI m2), .int (iI m3), .int (iI m4)])), (de, .inr (0, [.int (iI n1), .int (iI n2), .int (iI n3), .int (iI n4)])), (aZ zi, .inr (2, [.int (iI off), .int (iI sv), .ref b0, .ref e0])), (b0, .inr (0, [.int (iI b1), .int (iI b2), .int (iI b3), .int (iI b4)])), (e0, .inr (0, [.int (iI e1), .int (iI e2), .int (iI e3), .int (iI e4)]))] none "java/lang/UnsupportedOperationException" [(x, .inr (3, [.ref tp, .ref dr, .ref za, .int (iI (zPlace nn f))])), (za, .inl (cZ, 8, .inr (.inr (.inr (.inr (fun k => some (aZ k))))))), (tp, .inr (1, [.ref ba, .int (iI ((0 : Int))), .int (iI ((((zEnd nn f).1 : Nat) : Int))), .int (iI (bI (zBad nn f)))])), (ba, .inl (cB, 400, .inl f)), (dr, .inr (2, [.int (iI (zOff nn f)), .int (iI (zSave nn f)), .ref db, .ref de])), (db, .inr (0, [.int (iI ((rsel (zMore nn f) (zR1 nn f).1 (m1, m2, m3, m4)).1)), .int (iI ((rsel (zMore nn f) (zR1 nn f).1 (m1, m2, m3, m4)).2.1)), .int (iI ((rsel (zMore nn f) (zR1 nn f).1 (m1, m2, m3, m4)).2.2.1)), .int (iI ((rsel (zMore nn f) (zR1 nn f).1 (m1, m2, m3, m4)).2.2.2))])), (de, .inr (0, [.int (iI ((rsel (zMore nn f) (zR2 nn f).1 (n1, n2, n3, n4)).1)), .int (iI ((rsel (zMore nn f) (zR2 nn f).1 (n1, n2, n3, n4)).2.1)), .int (iI ((rsel (zMore nn f) (zR2 nn f).1 (n1, n2, n3, n4)).2.2.1)), .int (iI ((rsel (zMore nn f) (zR2 nn f).1 (n1, n2, n3, n4)).2.2.2))])), (aZ zi, .inr (2, [.int (iI off), .int (iI sv), .ref b0, .ref e0])), (b0, .inr (0, [.int (iI b1), .int (iI b2), .int (iI b3), .int (iI b4)])), (e0, .inr (0, [.int (iI e1), .int (iI e2), .int (iI e3), .int (iI e4)]))] := by
  refine xMet_of (by decide) (Nat.le_of_ble_eq_true rfl) ?_
  intro p e s m below meth c hx hb hr hown hlk hml hE hk hK hP hD hS hAS hZ ls hl
  have hl : lv_has ls 3 [(0, .ref x), (1, .int (iI ((zi : Int))))] := hl
  have gE := zEnd_b nn f
  have gp := zPlace_bad gq
  refine lv_aload_n hx hb d_Clk_zone_0 rfl (lv_at hl 0 rfl) ?_
  refine lv_iload_n hx hb d_Clk_zone_1 rfl (lv_at hl 1 rfl) ?_
  refine p_callV (rest := []) (q0 := 0) hx hb (hml.trans hl.1.symm) hown hk hK k_Clk_44 (ct_Clk_zoneAt l D tys x tp dr za bp cZ aZ zi htz (by omega)) (w_subP (is := [0, 1]) hP rfl) (w_subD (is := [0, 1]) hD rfl rfl) rfl rfl rfl rfl ⟨rfl, rfl⟩ ⟨by decide, by decide, by decide, by decide⟩ (Nat.le_of_ble_eq_true rfl) d_Clk_zone_2 ?_
  refine lv_astore_n (lv' := [(2, .ref (aZ zi)), (0, .ref x), (1, .int (iI ((zi : Int))))]) hx hb d_Clk_zone_5 rfl hl (by decide) rfl (fun ls hl => ?_)
  refine lv_aload_n hx hb d_Clk_zone_6 rfl (lv_at hl 1 rfl) ?_
  refine lv_aload_n hx hb d_Clk_zone_7 rfl (lv_at hl 1 rfl) ?_
  refine g_get hx hb hk hown hK hP 0 rfl f_Clk_10 rfl d_Clk_zone_8 ?_
  refine lv_aload_n hx hb d_Clk_zone_11 rfl (lv_at hl 1 rfl) ?_
  refine g_get hx hb hk hown hK hP 0 rfl f_Clk_19 rfl d_Clk_zone_12 ?_
  refine m_callV (rest := [.ref x]) (q0 := 0) hx hb (hml.trans hl.1.symm) hown hk hK k_Clk_48 (ct_Tape_readZone l D tys tp ba cB nn i bk f dr db de doff dsv m1 m2 m3 m4 n1 n2 n3 n4 hty (by omega)) hP hD hS [2, 3, 4, 5, 6] rfl rfl rfl rfl rfl rfl rfl ⟨rfl, rfl⟩ ⟨by decide, by decide, by decide, by decide⟩ (Nat.le_of_ble_eq_true rfl) d_Clk_zone_15 (fun H locs hP hD hS => ?_)
  have hP : va_P D vwCl [(x, .inr (3, [.ref tp, .ref dr, .ref za, .int (iI bp)])), (za, .inl (cZ, 8, .inr (.inr (.inr (.inr (fun k => some (aZ k))))))), (tp, .inr (1, [.ref ba, .int (iI ((nn : Int))), .int (iI ((((zEnd nn f).1 : Nat) : Int))), .int (iI (bI (zBad nn f)))])), (ba, .inl (cB, 400, .inl f)), (dr, .inr (2, [.int (iI (zOff nn f)), .int (iI (zSave nn f)), .ref db, .ref de])), (db, .inr (0, [.int (iI ((rsel (zMore nn f) (zR1 nn f).1 (m1, m2, m3, m4)).1)), .int (iI ((rsel (zMore nn f) (zR1 nn f).1 (m1, m2, m3, m4)).2.1)), .int (iI ((rsel (zMore nn f) (zR1 nn f).1 (m1, m2, m3, m4)).2.2.1)), .int (iI ((rsel (zMore nn f) (zR1 nn f).1 (m1, m2, m3, m4)).2.2.2))])), (de, .inr (0, [.int (iI ((rsel (zMore nn f) (zR2 nn f).1 (n1, n2, n3, n4)).1)), .int (iI ((rsel (zMore nn f) (zR2 nn f).1 (n1, n2, n3, n4)).2.1)), .int (iI ((rsel (zMore nn f) (zR2 nn f).1 (n1, n2, n3, n4)).2.2.1)), .int (iI ((rsel (zMore nn f) (zR2 nn f).1 (n1, n2, n3, n4)).2.2.2))])), (aZ zi, .inr (2, [.int (iI off), .int (iI sv), .ref b0, .ref e0])), (b0, .inr (0, [.int (iI b1), .int (iI b2), .int (iI b3), .int (iI b4)])), (e0, .inr (0, [.int (iI e1), .int (iI e2), .int (iI e3), .int (iI e4)]))] H := hP
  have hD : va_D (wA [(x, .inr (3, [.ref tp, .ref dr, .ref za, .int (iI bp)])), (za, .inl (cZ, 8, .inr (.inr (.inr (.inr (fun k => some (aZ k))))))), (tp, .inr (1, [.ref ba, .int (iI ((nn : Int))), .int (iI ((i : Int))), .int (iI (bI bk))])), (ba, .inl (cB, 400, .inl f)), (dr, .inr (2, [.int (iI doff), .int (iI dsv), .ref db, .ref de])), (db, .inr (0, [.int (iI m1), .int (iI m2), .int (iI m3), .int (iI m4)])), (de, .inr (0, [.int (iI n1), .int (iI n2), .int (iI n3), .int (iI n4)])), (aZ zi, .inr (2, [.int (iI off), .int (iI sv), .ref b0, .ref e0])), (b0, .inr (0, [.int (iI b1), .int (iI b2), .int (iI b3), .int (iI b4)])), (e0, .inr (0, [.int (iI e1), .int (iI e2), .int (iI e3), .int (iI e4)]))]) [(x, .inr (3, [.ref tp, .ref dr, .ref za, .int (iI bp)])), (za, .inl (cZ, 8, .inr (.inr (.inr (.inr (fun k => some (aZ k))))))), (tp, .inr (1, [.ref ba, .int (iI ((nn : Int))), .int (iI ((((zEnd nn f).1 : Nat) : Int))), .int (iI (bI (zBad nn f)))])), (ba, .inl (cB, 400, .inl f)), (dr, .inr (2, [.int (iI (zOff nn f)), .int (iI (zSave nn f)), .ref db, .ref de])), (db, .inr (0, [.int (iI ((rsel (zMore nn f) (zR1 nn f).1 (m1, m2, m3, m4)).1)), .int (iI ((rsel (zMore nn f) (zR1 nn f).1 (m1, m2, m3, m4)).2.1)), .int (iI ((rsel (zMore nn f) (zR1 nn f).1 (m1, m2, m3, m4)).2.2.1)), .int (iI ((rsel (zMore nn f) (zR1 nn f).1 (m1, m2, m3, m4)).2.2.2))])), (de, .inr (0, [.int (iI ((rsel (zMore nn f) (zR2 nn f).1 (n1, n2, n3, n4)).1)), .int (iI ((rsel (zMore nn f) (zR2 nn f).1 (n1, n2, n3, n4)).2.1)), .int (iI ((rsel (zMore nn f) (zR2 nn f).1 (n1, n2, n3, n4)).2.2.1)), .int (iI ((rsel (zMore nn f) (zR2 nn f).1 (n1, n2, n3, n4)).2.2.2))])), (aZ zi, .inr (2, [.int (iI off), .int (iI sv), .ref b0, .ref e0])), (b0, .inr (0, [.int (iI b1), .int (iI b2), .int (iI b3), .int (iI b4)])), (e0, .inr (0, [.int (iI e1), .int (iI e2), .int (iI e3), .int (iI e4)]))] := hD
  refine g_put hx hb hk hown hK hP hD hS 0 rfl f_Clk_27 fT_Clk rfl (rfl) rfl (Nat.le_of_ble_eq_true rfl) d_Clk_zone_18 (fun H locs hP hD hS => ?_)
  have hP : va_P D vwCl [(x, .inr (3, [.ref tp, .ref dr, .ref za, .int (iI (zPlace nn f))])), (za, .inl (cZ, 8, .inr (.inr (.inr (.inr (fun k => some (aZ k))))))), (tp, .inr (1, [.ref ba, .int (iI ((nn : Int))), .int (iI ((((zEnd nn f).1 : Nat) : Int))), .int (iI (bI (zBad nn f)))])), (ba, .inl (cB, 400, .inl f)), (dr, .inr (2, [.int (iI (zOff nn f)), .int (iI (zSave nn f)), .ref db, .ref de])), (db, .inr (0, [.int (iI ((rsel (zMore nn f) (zR1 nn f).1 (m1, m2, m3, m4)).1)), .int (iI ((rsel (zMore nn f) (zR1 nn f).1 (m1, m2, m3, m4)).2.1)), .int (iI ((rsel (zMore nn f) (zR1 nn f).1 (m1, m2, m3, m4)).2.2.1)), .int (iI ((rsel (zMore nn f) (zR1 nn f).1 (m1, m2, m3, m4)).2.2.2))])), (de, .inr (0, [.int (iI ((rsel (zMore nn f) (zR2 nn f).1 (n1, n2, n3, n4)).1)), .int (iI ((rsel (zMore nn f) (zR2 nn f).1 (n1, n2, n3, n4)).2.1)), .int (iI ((rsel (zMore nn f) (zR2 nn f).1 (n1, n2, n3, n4)).2.2.1)), .int (iI ((rsel (zMore nn f) (zR2 nn f).1 (n1, n2, n3, n4)).2.2.2))])), (aZ zi, .inr (2, [.int (iI off), .int (iI sv), .ref b0, .ref e0])), (b0, .inr (0, [.int (iI b1), .int (iI b2), .int (iI b3), .int (iI b4)])), (e0, .inr (0, [.int (iI e1), .int (iI e2), .int (iI e3), .int (iI e4)]))] H := hP
  have hD : va_D (wA [(x, .inr (3, [.ref tp, .ref dr, .ref za, .int (iI bp)])), (za, .inl (cZ, 8, .inr (.inr (.inr (.inr (fun k => some (aZ k))))))), (tp, .inr (1, [.ref ba, .int (iI ((nn : Int))), .int (iI ((i : Int))), .int (iI (bI bk))])), (ba, .inl (cB, 400, .inl f)), (dr, .inr (2, [.int (iI doff), .int (iI dsv), .ref db, .ref de])), (db, .inr (0, [.int (iI m1), .int (iI m2), .int (iI m3), .int (iI m4)])), (de, .inr (0, [.int (iI n1), .int (iI n2), .int (iI n3), .int (iI n4)])), (aZ zi, .inr (2, [.int (iI off), .int (iI sv), .ref b0, .ref e0])), (b0, .inr (0, [.int (iI b1), .int (iI b2), .int (iI b3), .int (iI b4)])), (e0, .inr (0, [.int (iI e1), .int (iI e2), .int (iI e3), .int (iI e4)]))]) [(x, .inr (3, [.ref tp, .ref dr, .ref za, .int (iI (zPlace nn f))])), (za, .inl (cZ, 8, .inr (.inr (.inr (.inr (fun k => some (aZ k))))))), (tp, .inr (1, [.ref ba, .int (iI ((nn : Int))), .int (iI ((((zEnd nn f).1 : Nat) : Int))), .int (iI (bI (zBad nn f)))])), (ba, .inl (cB, 400, .inl f)), (dr, .inr (2, [.int (iI (zOff nn f)), .int (iI (zSave nn f)), .ref db, .ref de])), (db, .inr (0, [.int (iI ((rsel (zMore nn f) (zR1 nn f).1 (m1, m2, m3, m4)).1)), .int (iI ((rsel (zMore nn f) (zR1 nn f).1 (m1, m2, m3, m4)).2.1)), .int (iI ((rsel (zMore nn f) (zR1 nn f).1 (m1, m2, m3, m4)).2.2.1)), .int (iI ((rsel (zMore nn f) (zR1 nn f).1 (m1, m2, m3, m4)).2.2.2))])), (de, .inr (0, [.int (iI ((rsel (zMore nn f) (zR2 nn f).1 (n1, n2, n3, n4)).1)), .int (iI ((rsel (zMore nn f) (zR2 nn f).1 (n1, n2, n3, n4)).2.1)), .int (iI ((rsel (zMore nn f) (zR2 nn f).1 (n1, n2, n3, n4)).2.2.1)), .int (iI ((rsel (zMore nn f) (zR2 nn f).1 (n1, n2, n3, n4)).2.2.2))])), (aZ zi, .inr (2, [.int (iI off), .int (iI sv), .ref b0, .ref e0])), (b0, .inr (0, [.int (iI b1), .int (iI b2), .int (iI b3), .int (iI b4)])), (e0, .inr (0, [.int (iI e1), .int (iI e2), .int (iI e3), .int (iI e4)]))] := hD
  refine lv_aload_n hx hb d_Clk_zone_21 rfl (lv_at hl 1 rfl) ?_
  refine g_get hx hb hk hown hK hP 0 rfl f_Clk_10 rfl d_Clk_zone_22 ?_
  refine lv_iconst (v := iI 0) hx hb d_Clk_zone_25 rfl ?_
  refine g_putN hx hb hk hown hK hP hD hS 2 rfl f_Clk_31 fT_Tape rfl (rfl) rfl (Nat.le_of_ble_eq_true rfl) d_Clk_zone_26 (fun H locs hP hD hS => ?_)
  have hP : va_P D vwCl [(x, .inr (3, [.ref tp, .ref dr, .ref za, .int (iI (zPlace nn f))])), (za, .inl (cZ, 8, .inr (.inr (.inr (.inr (fun k => some (aZ k))))))), (tp, .inr (1, [.ref ba, .int (iI 0), .int (iI ((((zEnd nn f).1 : Nat) : Int))), .int (iI (bI (zBad nn f)))])), (ba, .inl (cB, 400, .inl f)), (dr, .inr (2, [.int (iI (zOff nn f)), .int (iI (zSave nn f)), .ref db, .ref de])), (db, .inr (0, [.int (iI ((rsel (zMore nn f) (zR1 nn f).1 (m1, m2, m3, m4)).1)), .int (iI ((rsel (zMore nn f) (zR1 nn f).1 (m1, m2, m3, m4)).2.1)), .int (iI ((rsel (zMore nn f) (zR1 nn f).1 (m1, m2, m3, m4)).2.2.1)), .int (iI ((rsel (zMore nn f) (zR1 nn f).1 (m1, m2, m3, m4)).2.2.2))])), (de, .inr (0, [.int (iI ((rsel (zMore nn f) (zR2 nn f).1 (n1, n2, n3, n4)).1)), .int (iI ((rsel (zMore nn f) (zR2 nn f).1 (n1, n2, n3, n4)).2.1)), .int (iI ((rsel (zMore nn f) (zR2 nn f).1 (n1, n2, n3, n4)).2.2.1)), .int (iI ((rsel (zMore nn f) (zR2 nn f).1 (n1, n2, n3, n4)).2.2.2))])), (aZ zi, .inr (2, [.int (iI off), .int (iI sv), .ref b0, .ref e0])), (b0, .inr (0, [.int (iI b1), .int (iI b2), .int (iI b3), .int (iI b4)])), (e0, .inr (0, [.int (iI e1), .int (iI e2), .int (iI e3), .int (iI e4)]))] H := hP
  have hD : va_D (wA [(x, .inr (3, [.ref tp, .ref dr, .ref za, .int (iI bp)])), (za, .inl (cZ, 8, .inr (.inr (.inr (.inr (fun k => some (aZ k))))))), (tp, .inr (1, [.ref ba, .int (iI ((nn : Int))), .int (iI ((i : Int))), .int (iI (bI bk))])), (ba, .inl (cB, 400, .inl f)), (dr, .inr (2, [.int (iI doff), .int (iI dsv), .ref db, .ref de])), (db, .inr (0, [.int (iI m1), .int (iI m2), .int (iI m3), .int (iI m4)])), (de, .inr (0, [.int (iI n1), .int (iI n2), .int (iI n3), .int (iI n4)])), (aZ zi, .inr (2, [.int (iI off), .int (iI sv), .ref b0, .ref e0])), (b0, .inr (0, [.int (iI b1), .int (iI b2), .int (iI b3), .int (iI b4)])), (e0, .inr (0, [.int (iI e1), .int (iI e2), .int (iI e3), .int (iI e4)]))]) [(x, .inr (3, [.ref tp, .ref dr, .ref za, .int (iI (zPlace nn f))])), (za, .inl (cZ, 8, .inr (.inr (.inr (.inr (fun k => some (aZ k))))))), (tp, .inr (1, [.ref ba, .int (iI 0), .int (iI ((((zEnd nn f).1 : Nat) : Int))), .int (iI (bI (zBad nn f)))])), (ba, .inl (cB, 400, .inl f)), (dr, .inr (2, [.int (iI (zOff nn f)), .int (iI (zSave nn f)), .ref db, .ref de])), (db, .inr (0, [.int (iI ((rsel (zMore nn f) (zR1 nn f).1 (m1, m2, m3, m4)).1)), .int (iI ((rsel (zMore nn f) (zR1 nn f).1 (m1, m2, m3, m4)).2.1)), .int (iI ((rsel (zMore nn f) (zR1 nn f).1 (m1, m2, m3, m4)).2.2.1)), .int (iI ((rsel (zMore nn f) (zR1 nn f).1 (m1, m2, m3, m4)).2.2.2))])), (de, .inr (0, [.int (iI ((rsel (zMore nn f) (zR2 nn f).1 (n1, n2, n3, n4)).1)), .int (iI ((rsel (zMore nn f) (zR2 nn f).1 (n1, n2, n3, n4)).2.1)), .int (iI ((rsel (zMore nn f) (zR2 nn f).1 (n1, n2, n3, n4)).2.2.1)), .int (iI ((rsel (zMore nn f) (zR2 nn f).1 (n1, n2, n3, n4)).2.2.2))])), (aZ zi, .inr (2, [.int (iI off), .int (iI sv), .ref b0, .ref e0])), (b0, .inr (0, [.int (iI b1), .int (iI b2), .int (iI b3), .int (iI b4)])), (e0, .inr (0, [.int (iI e1), .int (iI e2), .int (iI e3), .int (iI e4)]))] := hD
  refine lv_aload_n hx hb d_Clk_zone_29 rfl (lv_at hl 1 rfl) ?_
  refine g_get hx hb hk hown hK hP 0 rfl f_Clk_27 rfl d_Clk_zone_30 ?_
  refine lv_iconst (v := iI (-1)) hx hb d_Clk_zone_33 rfl ?_
  refine ri_icmp_eq (tgt := 45) hx hb d_Clk_zone_34 (by decide) (fun h34 => ?_) (fun h34 => ?_)
  · exfalso; omega
  · exact x_throw (rest := []) hx hb hlk (hml.trans hl.1.symm) hE hown hk hoff xw_Clk_52 hP hS hAS hZ d_Clk_zone_37 d_Clk_zone_40 d_Clk_zone_41 d_Clk_zone_44 (by rfl) rfl ⟨by decide, by decide, by decide, by decide⟩
abbrev rm_Clk_zone_x : Room := { frames := 7, cells := 1, slots := 6, locals := 121 }
set_option maxHeartbeats 4000000 in
set_option maxRecDepth 100000 in
theorem ct_Clk_zone_x (l : Launch) (D : va_G) (tys : List (ClassId × FieldType)) (aS : Nat) (hoff : l.stackTraces = false) (x : Nat) (tp : Nat) (dr : Nat) (za : Nat) (bp : Int) (cZ : ClassId) (aZ : Nat → Nat) (z : Int) (htz : tys[4]? = some (cZ, .object "ZoneClock$Zone")) (gz1 : -2147483648 ≤ z) (gz2 : z ≤ 2147483647) (gz : z < 0 ∨ 8 ≤ z) : xMet l y_Clk_zone c_Clk_zone 3 none rm_Clk_zone_x D tys aS [.ref x, .int (iI z)] [(x, .inr (3, [.ref tp, .ref dr, .ref za, .int (iI bp)])), (za, .inl (cZ, 8, .inr (.inr (.inr (.inr (fun k => some (aZ k)))))))] none "java/lang/IllegalArgumentException" [(x, .inr (3, [.ref tp, .ref dr, .ref za, .int (iI bp)])), (za, .inl (cZ, 8, .inr (.inr (.inr (.inr (fun k => some (aZ k)))))))] := by
  refine xMet_of (by decide) (Nat.le_of_ble_eq_true rfl) ?_
  intro p e s m below meth c hx hb hr hown hlk hml hE hk hK hP hD hS hAS hZ ls hl
  have hl : lv_has ls 3 [(0, .ref x), (1, .int (iI z))] := hl
  refine lv_aload_n hx hb d_Clk_zone_0 rfl (lv_at hl 0 rfl) ?_
  refine lv_iload_n hx hb d_Clk_zone_1 rfl (lv_at hl 1 rfl) ?_
  exact x_thr (x_runV (rest := []) (q0 := 0) hx hb (hml.trans hl.1.symm) hown hk hK k_Clk_44 (ct_Clk_zoneAt_x l D tys aS hoff x tp dr za bp cZ aZ z htz (by omega) (by omega) (by omega)) (w_subP (is := [0, 1]) hP rfl) (x_subD (is := [0, 1]) hD hAS rfl rfl) (x_zH hZ hS hAS) rfl rfl rfl rfl ⟨by decide, by decide, by decide, by decide⟩ (Nat.le_of_ble_eq_true rfl) d_Clk_zone_2) hE hlk hP hD hS [0, 1] rfl rfl (by rfl) rfl
end
section
/-! Methods that throw, and leave cells of which not all is told. -/
def xMetG (l : Launch) (y : MethodName) (cc : ByteArray) (n : Nat) (r : Option FieldType) (rm : Room) (D : va_G) (tys : List (ClassId × FieldType)) (aS : Nat) (av : List Value) (wc : va_W) (Qc : Array Value → State → Outcome → State → Prop) : Prop :=
  MetFree l y (headSpec [Cond.code y cc n r] rm) (xPre D tys aS av wc) (fun _ _ _ _ _ => True) (fun a st o t => Qc a st o t ∧ xEnd wc st o t)
def xQE (D : va_G) (wc : va_W) (Pw : va_W → Prop) (X : String) : Array Value → State → Outcome → State → Prop := fun _ st o t =>
  ∃ w1 : va_W, Pw w1 ∧ w1.map Prod.fst = wc.map Prod.fst ∧ va_P D vwCl w1 t.heap ∧ va_F (wA wc) st t ∧ ∃ x : Nat, o = .threw x ∧ st.heap.size ≤ x ∧ xAt X x t
theorem xMet.toE {l : Launch} {y : MethodName} {cc : ByteArray} {n : Nat} {r : Option FieldType} {rm : Room} {D : va_G} {tys : List (ClassId × FieldType)} {aS : Nat} {av : List Value} {wc w1 : va_W} {X : String} (h : xMet l y cc n r rm D tys aS av wc none X w1) {Pw : va_W → Prop} (hw : Pw w1) (hf : w1.map Prod.fst = wc.map Prod.fst) :
    xMetG l y cc n r rm D tys aS av wc (xQE D wc Pw X) := by
  intro p e ha hc hk s m args below hfr happ hP hK
  obtain ⟨k, o, h1, h2, h3, ⟨q1, q2, q3⟩, h5⟩ := h p e ha hc hk s m args below hfr happ hP hK
  exact ⟨k, o, h1, h2, h3, ⟨w1, hw, hf, q1, q2, q3⟩, h5⟩
theorem xG_of {l : Launch} {y : MethodName} {cc : ByteArray} {n : Nat} {r : Option FieldType} {rm : Room} {D : va_G} {tys : List (ClassId × FieldType)} {aS : Nat} {av : List Value} {wc : va_W} {Qc : Array Value → State → Outcome → State → Prop} (hy : plainName y.cls = true) (hn : (lg_sl av).length ≤ n)
    (body : ∀ p e s m below meth c, p.tables.exec = Jvm.exec → c.code = cc → meth.sig.returnType = r → s.vm.findClass y.cls = some m.cls → meth.locks = false → c.maxLocals = n → c.exceptionTable.isEmpty = true → tk s → va_K D vwCl tys s → va_P D vwCl wc s.heap → va_D (wA wc) wc → va_S (wA wc) s.heap s.heap [] → (∀ q, wA wc q → q ≠ aS) → xS aS s s.heap →
      ∀ ls : Array Slot, lv_has ls n (lv_args 0 av) → W p l e rm s m av.toArray below meth c s.heap [] 0 0 (xMQ below Qc av.toArray s wc) (F0 m 0 ls [])) : xMetG l y cc n r rm D tys aS av wc Qc := by
  refine MetFree.of_bodyS (code := cc) (maxLocals := n) (ret := r) hy ?_ ?_
  · intro args s m h hn
    obtain ⟨meth, c, h1, h2, h3, h4, h5, h6, -, -⟩ := Cond.code_spec hn (atoms_spec (ws := [Cond.code y cc n r]) h _ List.mem_cons_self)
    exact ⟨meth, c, h1, h2, h3, h4, h5, h6⟩
  · intro p e s m args below meth c s₁ B hml hv _
    obtain ⟨rfl, h1, h2, h3, h4, h5⟩ := hv
    have hh0 : s₁.heap = s.heap := by rw [B.state]; rfl
    have hl := lv_entry av (n := n) hn
    have hE := B.noHandlers (atoms_spec (ws := [Cond.code y cc n r]) B.pre _ List.mem_cons_self)
    have K := body p e s m below meth c B.exec B.bytes B.returns (findClass_of_methodNamed B.named) B.notSynchronized hml hE h1 h2 h3 ⟨h4.1, fun k q hk => ⟨k, q.2, hk⟩⟩ va_S.rf (fun q hq => by obtain ⟨k, ee, hk⟩ := hq; exact h4.2 k (q, ee) hk) h5 _ hl
    rw [← lg_entry_eq] at K
    obtain ⟨t, a1, o, b1, b2, b3⟩ := K s₁ hh0 (Stand.of_body B)
    exact ⟨t, o, a1, b1, b2, ⟨b3.1, b3.2⟩⟩
section XG
variable {p : Program} {l : Launch} {e : Env} {R : Room} {s : State} {m : MethodId} {args : Array Value} {below : List Frame} {meth : Method} {c : Code} {H : Heap} {locs : List Loc} {cells slots : Nat} {Q : State → Prop}
variable {cc bytes : ByteArray} {pc maxL np ix aS : Nat} {ls : Array Slot} {rest st0 av As : List Value} {own : String} {y : MethodName} {ret : Option FieldType} {rm : Room} {D : va_G} {tys : List (ClassId × FieldType)} {wc wcC W0 : va_W} {X : String} {Qc : Array Value → State → Outcome → State → Prop}
theorem xGInto {T : State} (X0 : Stand p l e R s m args below meth c T locs cells slots) (hM : xMetG l y bytes maxL ret rm D tys aS av wc Qc) {g : JFrame} {ig : Instr} (hg : g.method = m) (hsize : g.locals.size = c.maxLocals) (hdg : decode c.code g.pc = .ok (ig, 3))
    {mk : MethodId} (hn : T.methodNamed? y = some mk) (hk : tk T) (hc : Cond.code y bytes maxL ret ∈ tbg) (hi : Cond.initialized y.cls ∈ tbg) (hcat : 2 * g.monitorRoom + (g.stack.map fun v => v.category).sum ≤ 8) (hR : kR R rm maxL cells slots) (hpre : xPre D tys aS av wc av.toArray T) :
    ∃ (o : Outcome) (t T' : State) (L : List Loc) (k n : Nat), Stand p l e R s m args below meth c T' (locs ++ L) (cells + k) (slots + n) ∧ xCnt o k n ∧ (∀ q ∈ L, wA wc q.base) ∧ T'.heap = t.heap ∧ T'.vm = t.vm ∧ Qc av.toArray (T.calling g mk av.toArray) o t ∧
      Steps p.tables e below (doInvoke e (T.setTop g) [] mk av.toArray).1 (xOut g g.stack T' o) := by
  obtain ⟨r1, r2, r3, r4⟩ := hR
  obtain ⟨methY, cY, hmY, hcY, -, hlY, -, -, -, -⟩ := Cond.code_spec hn (hk _ hc #[])
  obtain ⟨kY, hkY, -⟩ := className_of_methodNamed hn
  have hinitY : kY.init = .initialized := Cond.initialized_spec (findClass_of_methodNamed hn) hkY (hk _ hi #[])
  have h : At T g.method c below := by rw [hg]; exact X0.here
  have happ : (headSpec [Cond.code y bytes maxL ret] rm).appliesLoose y e.platform (T.calling g mk av.toArray) = true :=
    Spec.appliesLoose_calling (g := g) h hdg hn hkY hinitY (X0.room_calling (g := g) (R' := rm) hsize hmY hcY r1 (by rw [hlY]; omega) r3 r4) (atoms_intro (fun w hw => by rw [List.mem_singleton] at hw; subst hw; exact hk _ hc _))
  obtain ⟨mid, hmid⟩ := h.above
  have hfr : (T.setTop g).frames = (.java g :: mid) ++ below := by rw [State.frames_setTop' g h.top, hmid]; rfl
  obtain ⟨o, s₂, hsteps, -, hend, hq, L, k, n, hW, hs, hcnt, hL⟩ := Steps.callFree hM p X0.admits X0.cas X0.clock (acts := []) hfr happ (xPre_blind _ T g mk hpre) trivial
  rw [State.frames_setTop' g h.top, X0.tail] at hend
  cases o with
  | returned v =>
    obtain ⟨T', X', -, -, ht⟩ := X0.outOf hg hdg hend hW hs
    exact ⟨.returned v, s₂, T', L, k, n, X', hcnt, hL, by rw [ht, x_heap], by rw [ht, x_vm], hq, by rw [ht] at hsteps; exact hsteps⟩
  | threw x =>
    obtain ⟨T', X', -, -, ht⟩ := X0.outOfThrown hg hend hW hs
    exact ⟨.threw x, s₂, T', L, k, n, X', hcnt, hL, by rw [ht, Stand.throwing_heap], by rw [ht, Stand.throwing_vm], hq, by rw [ht] at hsteps; exact hsteps⟩
theorem xG_runV {b : Addr} {ci q0 : Nat} {fs : List Value} {TT : u_T} {N : Nat} (hx : p.tables.exec = Jvm.exec) (hb : c.code = cc) (hml : c.maxLocals = ls.size) (hown : s.vm.findClass own = some m.cls) (hk : tk s) (hK : va_K D vwCl tys s) (K : kV own ix y bytes maxL ret np) (hM : xMetG l y bytes maxL ret rm D tys aS (.ref b :: As) wc Qc)
    (hP : va_P D vwCl wc H) (hD : va_D (fun q => q ≠ aS) wc) (hZ : xS aS s H) (he : wc[q0]? = some (b, .inr (ci, fs))) (hc : vwCl[ci]? = some (y.cls, TT, N)) (hst : st0 = As.reverse ++ .ref b :: rest) (hav : As.length = np) (hR : kR R rm maxL cells slots) (hcat : (rest.map fun v => v.category).sum ≤ 8) (hdg : decode cc pc = .ok (.invokevirtual ix, 3)) :
    xRun p l e R s m args below meth c H locs cells slots (F0 m pc ls st0) rest (Qc (Value.ref b :: As).toArray) wc := by
  obtain ⟨k1, k2, k2', k3, k4, k5⟩ := K
  intro T hT X0
  subst hb
  obtain ⟨mk, methM, hnamed, hmethM, hstM, habM⟩ := Cond.instanceMethod_spec (hk _ k2 args)
  obtain ⟨methM', cM, hmethM', -, -, -, -, -, -, hsigM⟩ := Cond.code_spec hnamed (hk _ k4 args)
  cases hmethM.symm.trans hmethM'
  obtain ⟨c2, r2, m2, q1, q2, q3, q4, kP, hkP, hkPi⟩ := Cond.selects_spec (hk _ k2' args)
  obtain ⟨cellB, hcB, hoB, hclB⟩ := va_recv hK hP hc he
  cases hclB.symm.trans q1
  cases (State.methodFound?_of_named hnamed ⟨k5.1, k5.2.1⟩).symm.trans q2
  cases hnamed.symm.trans q3
  have hselP : selectMethod e.platform s.vm cellB.cls mk = .method mk := by rw [Launch.admits_selectMethod X0.admits]; exact q4
  obtain ⟨vm₁, X₁, hstep₁⟩ := X0.invokevirtual hx hown (hk _ k1 args) hnamed hmethM hstM hkP hkPi ⟨k5.1, k5.2.1⟩ (a := b) (cell := cellB) (by rw [hT]; exact hcB)
    (fun z h => by rw [h] at hoB; cases hoB) hselP hmethM habM hkP hkPi (g := F0 m pc ls st0) rfl (argsL := As) (rest := rest) (hav.trans (k_len k5 _ hsigM)) hst hdg
  obtain ⟨o, t, T', L, k, n, X', h1, h2, h3, h4, h5, h6⟩ := xGInto X₁ hM (g := F0 m pc ls rest) rfl hml.symm hdg (X₁.named hnamed) (tk_warm X₁.warmed hk) k4 k3 (lv_room hcat) hR (x_pre hk hK hP hD hZ _ hT X₁.warmed)
  exact ⟨o, (T.setVm vm₁).calling (F0 m pc ls rest) mk (Value.ref b :: As).toArray, t, T', L, k, n, hT, X', h1, h2, h3, h4, h5, fun target h => hstep₁ _ fun acts => by rw [doInvoke_state]; exact h6.trans h⟩
/-- it threw, and nothing here catches it; what it left is told by Pc -/
theorem xE_thr {Pc Pw : va_W → Prop} {a : Array Value} (hr : xRun p l e R s m args below meth c H locs 0 0 (F0 m pc ls st0) rest (xQE D wcC Pc X a) wcC) (hE : c.exceptionTable.isEmpty = true) (hlk : meth.locks = false) (hP : va_P D vwCl W0 H) (hD : va_D (wA wc) W0) (hS : va_S (wA wc) s.heap H locs)
    (is : List Nat) (hC : is.map (fun i => W0[i]?) = wcC.map some) (hw0 : W0.map Prod.fst = wc.map Prod.fst) (h : ∀ w1, Pc w1 → Pw (wset W0 is w1)) :
    W p l e R s m args below meth c H locs 0 0 (xMQ below (xQE D wc Pw X) args s wc) (F0 m pc ls st0) := by
  intro T hT X0
  obtain ⟨o, st₀, t, T', L, k, n, h0, X', hcnt, hL, e1, e2, ⟨w1, hpc, hf, hp, ⟨hz, hk⟩, ⟨x, rfl, hx, ce, c1, c2, c3⟩⟩, st⟩ := hr T hT X0
  obtain ⟨rfl, rfl⟩ := hcnt
  rw [h0] at hz hk hx
  have hA : ∀ q, wA wcC q → wA wc q := by
    rintro q ⟨k, ee, h⟩
    obtain ⟨i, -, g⟩ := wat hC k (q, ee) h
    exact hD.2 i (q, ee) g
  obtain ⟨j1, j2⟩ := wjoin hP hD hC hf hk hp
  have hff : (wset W0 is w1).map Prod.fst = wc.map Prod.fst := by
    rw [← hw0]
    refine wset_fst is w1 W0 (fun j i x h1 h2 => ?_)
    have e3 : (wcC.map Prod.fst)[j]? = some x.1 := by rw [← hf, List.getElem?_map, h2]; rfl
    rw [List.getElem?_map] at e3
    cases hj : wcC[j]? with
    | none => rw [hj] at e3; cases e3
    | some x0 =>
      rw [hj] at e3
      obtain ⟨i2, g1, g2⟩ := wat hC j x0 hj
      cases h1.symm.trans g1
      rw [List.getElem?_map, g2]
      exact e3
  obtain ⟨hwalk, hrun, hended, hWU, hsame⟩ := X'.leaveThrown x (g := F0 m pc ls rest) rfl rfl rfl (fun z hz => by rw [Array.isEmpty_iff] at hE; rw [hE] at hz; cases hz) hlk
  refine ⟨_, st _ hwalk, .threw x, hrun, hended, ⟨wset W0 is w1, h w1 hpc, hff, ?_, ⟨?_, fun q h1 h2 => ?_⟩, x, rfl, Nat.le_trans hS.1 hx, ce, ?_, c2, ?_⟩, locs ++ L, 1, 6, hWU, hsame, ⟨rfl, rfl⟩, fun q hq => ?_⟩
  · show va_P D vwCl (wset W0 is w1) T'.heap
    rw [e1]; exact j1
  · show s.heap.size ≤ T'.heap.size
    rw [e1]; exact Nat.le_trans hS.1 hz
  · show T'.heap[q]? = s.heap[q]?
    rw [e1, hk q (Nat.lt_of_lt_of_le h1 hS.1) (fun z => h2 (hA q z))]
    exact hS.2.1 q h1 h2
  · show T'.heap[x]? = some ce
    rw [e1]; exact c1
  · show T'.vm.findClass X = some ce.cls
    rw [e2]; exact c3
  · rcases List.mem_append.mp hq with h | h
    · exact hS.2.2 q h
    · exact hA _ (hL q h)
end XG
/-! the reading's states, step by step, as they fail or go on -/
theorem zByte_okc {n : Nat} {f : Nat → Int32} {c : Int} {i : Nat} (h : (zByte n f c (i, false)).2 = false) : zPk n f i = c := by
  by_cases q : zPk n f i = c
  · exact q
  · rw [zByte_ne q] at h; cases h
theorem zByte_bdc {n : Nat} {f : Nat → Int32} {c : Int} {i : Nat} (h : (zByte n f c (i, false)).2 = true) : zPk n f i ≠ c ∧ zByte n f c (i, false) = (i, true) := by
  by_cases q : zPk n f i = c
  · rw [zByte_eq q] at h; cases h
  · exact ⟨q, zByte_ne q⟩
theorem zBl_okc {n : Nat} {f : Nat → Int32} {i : Nat} (h : (zBl n f (i, false)).2 = false) : zPk n f i = 32 := by
  by_cases q : zPk n f i = 32
  · exact q
  · simp [zBl, q] at h
theorem zBl_bdc {n : Nat} {f : Nat → Int32} {i : Nat} (h : (zBl n f (i, false)).2 = true) : zPk n f i ≠ 32 ∧ zBl n f (i, false) = (i, true) := by
  by_cases q : zPk n f i = 32
  · simp [zBl, q] at h
  · exact ⟨q, by simp [zBl, q]⟩
theorem zBl_go {n : Nat} {f : Nat → Int32} {i : Nat} (h : zPk n f i = 32) : (zBl n f (i, false)).1 = zSkip f (n - i) i := by
  have hi : i < n := zPk_lt (f := f) (by omega)
  rw [zSkip_go (f := f) (n := n) (j := i) hi (by rw [← zPk_in (n := n) (f := f) (i := i) hi]; exact h)]
  simp [zBl, h]
theorem zNum_okc {n : Nat} {f : Nat → Int32} {lo hi : Int} {i : Nat} (h : (zNum n f lo hi (i, false)).2.2 = false) : lo ≤ (zDg n f i).1 ∧ (zDg n f i).1 ≤ hi ∧ zNum n f lo hi (i, false) = ((zDg n f i).1, ((zDg n f i).2, false)) := by
  by_cases q : (zDg n f i).1 < lo ∨ hi < (zDg n f i).1
  · rw [zNum_bad q] at h; cases h
  · exact ⟨by omega, by omega, zNum_good q⟩
theorem zNum_bdc {n : Nat} {f : Nat → Int32} {lo hi : Int} {i : Nat} (h : (zNum n f lo hi (i, false)).2.2 = true) : ((zDg n f i).1 < lo ∨ hi < (zDg n f i).1) ∧ zNum n f lo hi (i, false) = ((zDg n f i).1, (i, true)) := by
  by_cases q : (zDg n f i).1 < lo ∨ hi < (zDg n f i).1
  · exact ⟨q, zNum_bad q⟩
  · rw [zNum_good q] at h; cases h
theorem zp_eta {z : Nat × Bool} (h : z.2 = false) : z = (z.1, false) := by rw [← h]
end
section
/-! Contracts: the reference's calendar and reading. By program (wip/whole/m_ref.py). -/
abbrev rm_Ref_leap : Room := { frames := 0, cells := 0, slots := 0, locals := 0 }
set_option maxHeartbeats 4000000 in
set_option maxRecDepth 100000 in
theorem ct_Ref_leap (l : Launch) (D : va_G) (tys : List (ClassId × FieldType)) (y : Int) (gy1 : 1900 ≤ y) (gy2 : y ≤ 2400) : pMet l y_Ref_leap c_Ref_leap 1 (some .boolean) rm_Ref_leap D tys [.int (iI y)] [] (.int (iI (bI (cLeap y)))) := by
  refine pMet_of (by decide) (Nat.le_of_ble_eq_true rfl) ?_
  intro p e s m below meth c hx hb hr hown hlk hml hk hK hP hD ls hl
  have hl : lv_has ls 1 [(0, .int (iI y))] := hl
  refine lv_iload_n hx hb d_Ref_leap_0 rfl (lv_at hl 0 rfl) ?_
  refine lv_iconst (v := iI 4) hx hb d_Ref_leap_1 rfl ?_
  refine ri_irem hx hb d_Ref_leap_2 ?_
  refine ri_if_ne (tgt := 13) hx hb d_Ref_leap_3 (by decide) (fun h3 => ?_) (fun h3 => ?_)
  · refine lv_iload_n hx hb d_Ref_leap_13 rfl (lv_at hl 0 rfl) ?_
    refine lv_sipush (v := iI 400) hx hb d_Ref_leap_14 (by decide) ?_
    refine ri_irem hx hb d_Ref_leap_17 ?_
    refine ri_if_ne (tgt := 25) hx hb d_Ref_leap_18 (by decide) (fun h18 => ?_) (fun h18 => ?_)
    · refine lv_iconst (v := iI 0) hx hb d_Ref_leap_25 rfl ?_
      exact p_zret hx hb hr hlk d_Ref_leap_26 (by first | (rw [show cLeap y = true from by simp [cLeap]; omega]; rfl) | (rw [show cLeap y = false from by simp [cLeap]; omega]; rfl)) (by omega)
    · refine lv_iconst (v := iI 1) hx hb d_Ref_leap_21 rfl ?_
      refine lv_goto (tgt := 26) hx hb d_Ref_leap_22 (by decide) ?_
      exact p_zret hx hb hr hlk d_Ref_leap_26 (by first | (rw [show cLeap y = true from by simp [cLeap]; omega]; rfl) | (rw [show cLeap y = false from by simp [cLeap]; omega]; rfl)) (by omega)
  · refine lv_iload_n hx hb d_Ref_leap_6 rfl (lv_at hl 0 rfl) ?_
    refine lv_bipush (v := iI 100) hx hb d_Ref_leap_7 (by decide) ?_
    refine ri_irem hx hb d_Ref_leap_9 ?_
    refine ri_if_ne (tgt := 21) hx hb d_Ref_leap_10 (by decide) (fun h10 => ?_) (fun h10 => ?_)
    · refine lv_iconst (v := iI 1) hx hb d_Ref_leap_21 rfl ?_
      refine lv_goto (tgt := 26) hx hb d_Ref_leap_22 (by decide) ?_
      exact p_zret hx hb hr hlk d_Ref_leap_26 (by first | (rw [show cLeap y = true from by simp [cLeap]; omega]; rfl) | (rw [show cLeap y = false from by simp [cLeap]; omega]; rfl)) (by omega)
    · refine lv_iload_n hx hb d_Ref_leap_13 rfl (lv_at hl 0 rfl) ?_
      refine lv_sipush (v := iI 400) hx hb d_Ref_leap_14 (by decide) ?_
      refine ri_irem hx hb d_Ref_leap_17 ?_
      refine ri_if_ne (tgt := 25) hx hb d_Ref_leap_18 (by decide) (fun h18 => ?_) (fun h18 => ?_)
      · refine lv_iconst (v := iI 0) hx hb d_Ref_leap_25 rfl ?_
        exact p_zret hx hb hr hlk d_Ref_leap_26 (by first | (rw [show cLeap y = true from by simp [cLeap]; omega]; rfl) | (rw [show cLeap y = false from by simp [cLeap]; omega]; rfl)) (by omega)
      · refine lv_iconst (v := iI 1) hx hb d_Ref_leap_21 rfl ?_
        refine lv_goto (tgt := 26) hx hb d_Ref_leap_22 (by decide) ?_
        exact p_zret hx hb hr hlk d_Ref_leap_26 (by first | (rw [show cLeap y = true from by simp [cLeap]; omega]; rfl) | (rw [show cLeap y = false from by simp [cLeap]; omega]; rfl)) (by omega)
abbrev rm_Ref_length : Room := { frames := 1, cells := 0, slots := 0, locals := 20 }
set_option maxHeartbeats 4000000 in
set_option maxRecDepth 100000 in
theorem ct_Ref_length (l : Launch) (D : va_G) (tys : List (ClassId × FieldType)) (y : Int) (mo : Int) (gy1 : 1900 ≤ y) (gy2 : y ≤ 2400) (gm1 : 1 ≤ mo) (gm2 : mo ≤ 12) : pMet l y_Ref_length c_Ref_length 2 (some .int) rm_Ref_length D tys [.int (iI y), .int (iI mo)] [] (.int (iI (cLen y mo))) := by
  refine pMet_of (by decide) (Nat.le_of_ble_eq_true rfl) ?_
  intro p e s m below meth c hx hb hr hown hlk hml hk hK hP hD ls hl
  have hl : lv_has ls 2 [(0, .int (iI y)), (1, .int (iI mo))] := hl
  refine lv_iload_n hx hb d_Ref_length_0 rfl (lv_at hl 1 rfl) ?_
  refine lv_iconst (v := iI 2) hx hb d_Ref_length_1 rfl ?_
  refine ri_icmp_ne (tgt := 22) hx hb d_Ref_length_2 (by decide) (fun h2 => ?_) (fun h2 => ?_)
  · refine lv_iload_n hx hb d_Ref_length_22 rfl (lv_at hl 1 rfl) ?_
    refine lv_iconst (v := iI 4) hx hb d_Ref_length_23 rfl ?_
    refine ri_icmp_eq (tgt := 45) hx hb d_Ref_length_24 (by decide) (fun h24 => ?_) (fun h24 => ?_)
    · refine lv_bipush (v := iI 30) hx hb d_Ref_length_45 (by decide) ?_
      refine lv_goto (tgt := 52) hx hb d_Ref_length_47 (by decide) ?_
      exact p_iret hx hb hr hlk d_Ref_length_52 (by unfold cLen; first | (rw [if_pos h2, bI_e1 h9]; rfl) | (rw [if_pos h2, bI_e0 h9]; rfl) | (rw [if_neg h2, if_pos (by omega)]; done) | (rw [if_neg h2, if_neg (by omega)]; done))
    · refine lv_iload_n hx hb d_Ref_length_27 rfl (lv_at hl 1 rfl) ?_
      refine lv_bipush (v := iI 6) hx hb d_Ref_length_28 (by decide) ?_
      refine ri_icmp_eq (tgt := 45) hx hb d_Ref_length_30 (by decide) (fun h30 => ?_) (fun h30 => ?_)
      · refine lv_bipush (v := iI 30) hx hb d_Ref_length_45 (by decide) ?_
        refine lv_goto (tgt := 52) hx hb d_Ref_length_47 (by decide) ?_
        exact p_iret hx hb hr hlk d_Ref_length_52 (by unfold cLen; first | (rw [if_pos h2, bI_e1 h9]; rfl) | (rw [if_pos h2, bI_e0 h9]; rfl) | (rw [if_neg h2, if_pos (by omega)]; done) | (rw [if_neg h2, if_neg (by omega)]; done))
      · refine lv_iload_n hx hb d_Ref_length_33 rfl (lv_at hl 1 rfl) ?_
        refine lv_bipush (v := iI 9) hx hb d_Ref_length_34 (by decide) ?_
        refine ri_icmp_eq (tgt := 45) hx hb d_Ref_length_36 (by decide) (fun h36 => ?_) (fun h36 => ?_)
        · refine lv_bipush (v := iI 30) hx hb d_Ref_length_45 (by decide) ?_
          refine lv_goto (tgt := 52) hx hb d_Ref_length_47 (by decide) ?_
          exact p_iret hx hb hr hlk d_Ref_length_52 (by unfold cLen; first | (rw [if_pos h2, bI_e1 h9]; rfl) | (rw [if_pos h2, bI_e0 h9]; rfl) | (rw [if_neg h2, if_pos (by omega)]; done) | (rw [if_neg h2, if_neg (by omega)]; done))
        · refine lv_iload_n hx hb d_Ref_length_39 rfl (lv_at hl 1 rfl) ?_
          refine lv_bipush (v := iI 11) hx hb d_Ref_length_40 (by decide) ?_
          refine ri_icmp_ne (tgt := 50) hx hb d_Ref_length_42 (by decide) (fun h42 => ?_) (fun h42 => ?_)
          · refine lv_bipush (v := iI 31) hx hb d_Ref_length_50 (by decide) ?_
            exact p_iret hx hb hr hlk d_Ref_length_52 (by unfold cLen; first | (rw [if_pos h2, bI_e1 h9]; rfl) | (rw [if_pos h2, bI_e0 h9]; rfl) | (rw [if_neg h2, if_pos (by omega)]; done) | (rw [if_neg h2, if_neg (by omega)]; done))
          · refine lv_bipush (v := iI 30) hx hb d_Ref_length_45 (by decide) ?_
            refine lv_goto (tgt := 52) hx hb d_Ref_length_47 (by decide) ?_
            exact p_iret hx hb hr hlk d_Ref_length_52 (by unfold cLen; first | (rw [if_pos h2, bI_e1 h9]; rfl) | (rw [if_pos h2, bI_e0 h9]; rfl) | (rw [if_neg h2, if_pos (by omega)]; done) | (rw [if_neg h2, if_neg (by omega)]; done))
  · refine lv_iload_n hx hb d_Ref_length_5 rfl (lv_at hl 0 rfl) ?_
    refine p_callS (rest := []) hx hb (hml.trans hl.1.symm) hown hk hK k_Ref_47 (ct_Ref_leap l D tys y (by omega) (by omega)) nil_P nil_D rfl rfl ⟨rfl, rfl⟩ ⟨by decide, by decide, by decide, by decide⟩ (Nat.le_of_ble_eq_true rfl) d_Ref_length_6 ?_
    have gB := bI_b (cLeap y)
    refine ri_if_eq (tgt := 17) hx hb d_Ref_length_9 (by decide) (fun h9 => ?_) (fun h9 => ?_)
    · refine lv_bipush (v := iI 28) hx hb d_Ref_length_17 (by decide) ?_
      refine lv_goto (tgt := 52) hx hb d_Ref_length_19 (by decide) ?_
      exact p_iret hx hb hr hlk d_Ref_length_52 (by unfold cLen; first | (rw [if_pos h2, bI_e1 h9]; rfl) | (rw [if_pos h2, bI_e0 h9]; rfl) | (rw [if_neg h2, if_pos (by omega)]; done) | (rw [if_neg h2, if_neg (by omega)]; done))
    · refine lv_bipush (v := iI 29) hx hb d_Ref_length_12 (by decide) ?_
      refine lv_goto (tgt := 52) hx hb d_Ref_length_14 (by decide) ?_
      exact p_iret hx hb hr hlk d_Ref_length_52 (by unfold cLen; first | (rw [if_pos h2, bI_e1 h9]; rfl) | (rw [if_pos h2, bI_e0 h9]; rfl) | (rw [if_neg h2, if_pos (by omega)]; done) | (rw [if_neg h2, if_neg (by omega)]; done))
abbrev rm_Ref_number : Room := { frames := 2, cells := 0, slots := 0, locals := 41 }
set_option maxHeartbeats 4000000 in
set_option maxRecDepth 100000 in
theorem ct_Ref_number (l : Launch) (D : va_G) (tys : List (ClassId × FieldType)) (y : Int) (mo : Int) (gy1 : 1900 ≤ y) (gy2 : y ≤ 2400) (gm1 : 1 ≤ mo) (gm2 : mo ≤ 12) : pMet l y_Ref_number c_Ref_number 5 (some .int) rm_Ref_number D tys [.int (iI y), .int (iI mo)] [] (.int (iI (cFD y mo))) := by
  refine pMet_of (by decide) (Nat.le_of_ble_eq_true rfl) ?_
  intro p e s m below meth c hx hb hr hown hlk hml hk hK hP hD ls hl
  have hl : lv_has ls 5 [(0, .int (iI y)), (1, .int (iI mo))] := hl
  refine lv_iload_n hx hb d_Ref_number_0 rfl (lv_at hl 0 rfl) ?_
  refine lv_iconst (v := iI 1) hx hb d_Ref_number_1 rfl ?_
  refine ri_isub hx hb d_Ref_number_2 ?_
  refine lv_istore_n (lv' := [(2, .int (iI (y - 1))), (0, .int (iI y)), (1, .int (iI mo))]) hx hb d_Ref_number_3 rfl hl (by decide) rfl (fun ls hl => ?_)
  refine lv_sipush (v := iI 365) hx hb d_Ref_number_4 (by decide) ?_
  refine lv_iload_n hx hb d_Ref_number_7 rfl (lv_at hl 1 rfl) ?_
  refine lv_sipush (v := iI 1970) hx hb d_Ref_number_8 (by decide) ?_
  refine ri_isub hx hb d_Ref_number_11 ?_
  refine ri_imul hx hb d_Ref_number_12 ?_
  refine lv_iload_n hx hb d_Ref_number_13 rfl (lv_at hl 0 rfl) ?_
  refine lv_iconst (v := iI 4) hx hb d_Ref_number_14 rfl ?_
  refine ri_idiv hx hb d_Ref_number_15 ?_
  refine ri_iadd hx hb d_Ref_number_16 ?_
  refine lv_iload_n hx hb d_Ref_number_17 rfl (lv_at hl 0 rfl) ?_
  refine lv_bipush (v := iI 100) hx hb d_Ref_number_18 (by decide) ?_
  refine ri_idiv hx hb d_Ref_number_20 ?_
  refine ri_isub hx hb d_Ref_number_21 ?_
  refine lv_iload_n hx hb d_Ref_number_22 rfl (lv_at hl 0 rfl) ?_
  refine lv_sipush (v := iI 400) hx hb d_Ref_number_23 (by decide) ?_
  refine ri_idiv hx hb d_Ref_number_26 ?_
  refine ri_iadd hx hb d_Ref_number_27 ?_
  refine lv_sipush (v := iI 477) hx hb d_Ref_number_28 (by decide) ?_
  refine ri_isub hx hb d_Ref_number_31 ?_
  refine ri_i (show ((((365 * (y - 1970)) + ((y - 1) / 4)) - ((y - 1) / 100)) + ((y - 1) / 400)) - 477 = cFD y 1 from by rw [cFD_1]; unfold cYear; omega) ?_
  refine lv_istore_n (lv' := [(3, .int (iI (cFD y 1))), (2, .int (iI (y - 1))), (0, .int (iI y)), (1, .int (iI mo))]) hx hb d_Ref_number_32 rfl hl (by decide) rfl (fun ls hl => ?_)
  refine lv_iconst (v := iI 1) hx hb d_Ref_number_33 rfl ?_
  refine lv_istore (lv' := [(4, .int (iI 1)), (3, .int (iI (cFD y 1))), (2, .int (iI (y - 1))), (0, .int (iI y)), (1, .int (iI mo))]) hx hb d_Ref_number_34 hl (by decide) rfl (fun ls hl => ?_)
  have loop36 : ∀ (n : Nat) (k : Int) (ls : Array Slot), (1 ≤ k) → (k ≤ mo) → (mo - k).toNat = n → lv_has ls 5 [(4, .int (iI k)), (3, .int (iI (cFD y k))), (0, .int (iI y)), (1, .int (iI mo))] → W p l e rm_Ref_number s m ([.int (iI y), .int (iI mo)] : List Value).toArray below meth c s.heap [] 0 0 (MQ below (pQ (.int (iI (cFD y mo)))) ([.int (iI y), .int (iI mo)] : List Value).toArray s 0 0 (fun _ => False)) (F0 m 36 ls []) := by
    intro n
    induction n using Nat.strongRecOn with
    | _ n ih =>
    intro k ls hk1 hk2 hn hl
    refine lv_iload hx hb d_Ref_number_36 (lv_at hl 0 rfl) ?_
    refine lv_iload_n hx hb d_Ref_number_38 rfl (lv_at hl 3 rfl) ?_
    refine ri_icmp_ge (tgt := 57) hx hb d_Ref_number_39 (by decide) (fun h39 => ?_) (fun h39 => ?_)
    · refine lv_iload_n hx hb d_Ref_number_57 rfl (lv_at hl 1 rfl) ?_
      exact p_iret hx hb hr hlk d_Ref_number_58 (by rw [show k = mo by omega])
    · refine lv_iload_n hx hb d_Ref_number_42 rfl (lv_at hl 1 rfl) ?_
      refine lv_iload_n hx hb d_Ref_number_43 rfl (lv_at hl 2 rfl) ?_
      refine lv_iload hx hb d_Ref_number_44 (lv_at hl 0 rfl) ?_
      refine p_callS (rest := [.int (iI (cFD y k))]) hx hb (hml.trans hl.1.symm) hown hk hK k_Ref_51 (ct_Ref_length l D tys y k (by omega) (by omega) (by omega) (by omega)) nil_P nil_D rfl rfl ⟨rfl, rfl⟩ ⟨by decide, by decide, by decide, by decide⟩ (Nat.le_of_ble_eq_true rfl) d_Ref_number_46 ?_
      refine ri_iadd hx hb d_Ref_number_49 ?_
      refine ri_i (show (cFD y k) + (cLen y k) = cFD y (k + 1) from (cFD_succ y hk1).symm) ?_
      refine lv_istore_n (lv' := [(3, .int (iI (cFD y (k + 1)))), (4, .int (iI k)), (0, .int (iI y)), (1, .int (iI mo))]) hx hb d_Ref_number_50 rfl hl (by decide) rfl (fun ls hl => ?_)
      refine lv_iinc (k := 1) (v := iI (k + 1)) (lv' := [(4, .int (iI (k + 1))), (3, .int (iI (cFD y (k + 1)))), (0, .int (iI y)), (1, .int (iI mo))]) hx hb d_Ref_number_51 hl rfl (iI_add _ _) (by decide) rfl (fun ls hl => ?_)
      refine lv_goto (tgt := 36) hx hb d_Ref_number_54 (by decide) ?_
      exact ih _ (by omega) (k + 1) ls (by omega) (by omega) rfl (lv_sub hl [0, 1, 2, 3] rfl)
  exact loop36 _ 1 ls (by omega) (by omega) rfl (lv_sub hl [0, 1, 3, 4] rfl)
abbrev rm_Ref_weekday : Room := { frames := 1, cells := 0, slots := 0, locals := 22 }
set_option maxHeartbeats 4000000 in
set_option maxRecDepth 100000 in
theorem ct_Ref_weekday (l : Launch) (D : va_G) (tys : List (ClassId × FieldType)) (d : Int) (gd1 : -1000000 ≤ d) (gd2 : d ≤ 1000000) : pMet l y_Ref_weekday c_Ref_weekday 1 (some .int) rm_Ref_weekday D tys [.int (iI d)] [] (.int (iI (cWd d + 1))) := by
  refine pMet_of (by decide) (Nat.le_of_ble_eq_true rfl) ?_
  intro p e s m below meth c hx hb hr hown hlk hml hk hK hP hD ls hl
  have hl : lv_has ls 1 [(0, .int (iI d))] := hl
  refine lv_iload_n hx hb d_Ref_weekday_0 rfl (lv_at hl 0 rfl) ?_
  refine lv_iconst (v := iI 4) hx hb d_Ref_weekday_1 rfl ?_
  refine ri_iadd hx hb d_Ref_weekday_2 ?_
  refine lv_bipush (v := iI 7) hx hb d_Ref_weekday_3 (by decide) ?_
  refine p_callS (rest := []) hx hb (hml.trans hl.1.symm) hown hk hK k_Ref_72 (ct_Math_floorModI l D tys (d + 4) 7 (by omega) (by omega) (by omega) (by omega)) nil_P nil_D rfl rfl ⟨rfl, rfl⟩ ⟨by decide, by decide, by decide, by decide⟩ (Nat.le_of_ble_eq_true rfl) d_Ref_weekday_5 ?_
  refine lv_iconst (v := iI 1) hx hb d_Ref_weekday_8 rfl ?_
  refine ri_iadd hx hb d_Ref_weekday_9 ?_
  exact p_iret hx hb hr hlk d_Ref_weekday_10 (by rfl)
abbrev rm_Ref_digit : Room := { frames := 0, cells := 0, slots := 0, locals := 0 }
set_option maxHeartbeats 4000000 in
set_option maxRecDepth 100000 in
theorem ct_Ref_digit (l : Launch) (D : va_G) (tys : List (ClassId × FieldType)) (x : Int) (gx1 : -2147483648 ≤ x) (gx2 : x ≤ 2147483647) : pMet l y_Ref_digit c_Ref_digit 1 (some .boolean) rm_Ref_digit D tys [.int (iI x)] [] (.int (iI (bI (zDigB x)))) := by
  refine pMet_of (by decide) (Nat.le_of_ble_eq_true rfl) ?_
  intro p e s m below meth c hx hb hr hown hlk hml hk hK hP hD ls hl
  have hl : lv_has ls 1 [(0, .int (iI x))] := hl
  refine lv_iload_n hx hb d_Ref_digit_0 rfl (lv_at hl 0 rfl) ?_
  refine lv_bipush (v := iI 48) hx hb d_Ref_digit_1 (by decide) ?_
  refine ri_icmp_lt (tgt := 16) hx hb d_Ref_digit_3 (by decide) (fun h3 => ?_) (fun h3 => ?_)
  · refine lv_iconst (v := iI 0) hx hb d_Ref_digit_16 rfl ?_
    exact p_zret hx hb hr hlk d_Ref_digit_17 (by unfold zDigB; first | (rw [decide_eq_false (show ¬ 48 ≤ x by omega)]; rfl) | (rw [decide_eq_true (show 48 ≤ x by omega), decide_eq_false (show ¬ x ≤ 57 by omega)]; rfl) | (rw [decide_eq_true (show 48 ≤ x by omega), decide_eq_true (show x ≤ 57 by omega)]; rfl)) (by omega)
  · refine lv_iload_n hx hb d_Ref_digit_6 rfl (lv_at hl 0 rfl) ?_
    refine lv_bipush (v := iI 57) hx hb d_Ref_digit_7 (by decide) ?_
    refine ri_icmp_gt (tgt := 16) hx hb d_Ref_digit_9 (by decide) (fun h9 => ?_) (fun h9 => ?_)
    · refine lv_iconst (v := iI 0) hx hb d_Ref_digit_16 rfl ?_
      exact p_zret hx hb hr hlk d_Ref_digit_17 (by unfold zDigB; first | (rw [decide_eq_false (show ¬ 48 ≤ x by omega)]; rfl) | (rw [decide_eq_true (show 48 ≤ x by omega), decide_eq_false (show ¬ x ≤ 57 by omega)]; rfl) | (rw [decide_eq_true (show 48 ≤ x by omega), decide_eq_true (show x ≤ 57 by omega)]; rfl)) (by omega)
    · refine lv_iconst (v := iI 1) hx hb d_Ref_digit_12 rfl ?_
      refine lv_goto (tgt := 17) hx hb d_Ref_digit_13 (by decide) ?_
      exact p_zret hx hb hr hlk d_Ref_digit_17 (by unfold zDigB; first | (rw [decide_eq_false (show ¬ 48 ≤ x by omega)]; rfl) | (rw [decide_eq_true (show 48 ≤ x by omega), decide_eq_false (show ¬ x ≤ 57 by omega)]; rfl) | (rw [decide_eq_true (show 48 ≤ x by omega), decide_eq_true (show x ≤ 57 by omega)]; rfl)) (by omega)
abbrev rm_Ref_thrown : Room := { frames := 0, cells := 0, slots := 0, locals := 0 }
set_option maxHeartbeats 4000000 in
set_option maxRecDepth 100000 in
theorem ct_Ref_thrown (l : Launch) (D : va_G) (tys : List (ClassId × FieldType)) (mm : Nat) (tA : Nat) (oA : Nat) (sA : Nat) (eA : Nat) (gA : Nat) (cA : Nat) (rA : Nat) (fA : Nat) (fa : Int) (nn : Nat) (pl : Int) (yr : Int) (mn : Int) (dy : Int) (i : Nat)  : pMet l y_Ref_thrown c_Ref_thrown 1 (some .int) rm_Ref_thrown D tys [.ref mm] [(mm, .inr (4, [.int (iI fa), .ref tA, .int (iI ((nn : Int))), .int (iI pl), .int (iI yr), .int (iI mn), .int (iI dy), .int (iI ((i : Int))), .ref oA, .ref sA, .ref eA, .ref gA, .ref cA, .ref rA, .ref fA]))] (.int (iI fa)) := by
  refine pMet_of (by decide) (Nat.le_of_ble_eq_true rfl) ?_
  intro p e s m below meth c hx hb hr hown hlk hml hk hK hP hD ls hl
  have hl : lv_has ls 1 [(0, .ref mm)] := hl
  refine lv_aload_n hx hb d_Ref_thrown_0 rfl (lv_at hl 0 rfl) ?_
  refine g_get hx hb hk hown hK hP 0 rfl f_Ref_44 rfl d_Ref_thrown_1 ?_
  exact p_iret hx hb hr hlk d_Ref_thrown_4 (by rfl)
abbrev rm_Ref_fail : Room := { frames := 0, cells := 0, slots := 0, locals := 0 }
set_option maxHeartbeats 4000000 in
set_option maxRecDepth 100000 in
theorem ct_Ref_fail (l : Launch) (D : va_G) (tys : List (ClassId × FieldType)) (mm : Nat) (tA : Nat) (oA : Nat) (sA : Nat) (eA : Nat) (gA : Nat) (cA : Nat) (rA : Nat) (fA : Nat) (fa : Int) (nn : Nat) (pl : Int) (yr : Int) (mn : Int) (dy : Int) (i : Nat) (cd : Int)  : mMet l y_Ref_fail c_Ref_fail 2 (some .int) rm_Ref_fail D tys [.ref mm, .int (iI cd)] [(mm, .inr (4, [.int (iI fa), .ref tA, .int (iI ((nn : Int))), .int (iI pl), .int (iI yr), .int (iI mn), .int (iI dy), .int (iI ((i : Int))), .ref oA, .ref sA, .ref eA, .ref gA, .ref cA, .ref rA, .ref fA]))] (some (.int (iI 0))) [(mm, .inr (4, [.int (iI cd), .ref tA, .int (iI ((nn : Int))), .int (iI pl), .int (iI yr), .int (iI mn), .int (iI dy), .int (iI ((i : Int))), .ref oA, .ref sA, .ref eA, .ref gA, .ref cA, .ref rA, .ref fA]))] := by
  refine mMet_of (by decide) (Nat.le_of_ble_eq_true rfl) ?_
  intro p e s m below meth c hx hb hr hown hlk hml hk hK hP hD hS ls hl
  have hl : lv_has ls 2 [(0, .ref mm), (1, .int (iI cd))] := hl
  refine lv_aload_n hx hb d_Ref_fail_0 rfl (lv_at hl 0 rfl) ?_
  refine lv_iload_n hx hb d_Ref_fail_1 rfl (lv_at hl 1 rfl) ?_
  refine g_put hx hb hk hown hK hP hD hS 0 rfl f_Ref_44 fT_Ref rfl (rfl) rfl (Nat.le_of_ble_eq_true rfl) d_Ref_fail_2 (fun H locs hP hD hS => ?_)
  have hP : va_P D vwCl [(mm, .inr (4, [.int (iI cd), .ref tA, .int (iI ((nn : Int))), .int (iI pl), .int (iI yr), .int (iI mn), .int (iI dy), .int (iI ((i : Int))), .ref oA, .ref sA, .ref eA, .ref gA, .ref cA, .ref rA, .ref fA]))] H := hP
  have hD : va_D (wA [(mm, .inr (4, [.int (iI fa), .ref tA, .int (iI ((nn : Int))), .int (iI pl), .int (iI yr), .int (iI mn), .int (iI dy), .int (iI ((i : Int))), .ref oA, .ref sA, .ref eA, .ref gA, .ref cA, .ref rA, .ref fA]))]) [(mm, .inr (4, [.int (iI cd), .ref tA, .int (iI ((nn : Int))), .int (iI pl), .int (iI yr), .int (iI mn), .int (iI dy), .int (iI ((i : Int))), .ref oA, .ref sA, .ref eA, .ref gA, .ref cA, .ref rA, .ref fA]))] := hD
  refine lv_iconst (v := iI 0) hx hb d_Ref_fail_5 rfl ?_
  exact m_iret hx hb hr hlk hP hS d_Ref_fail_6 (by rfl) (by rfl)
abbrev rm_Ref_place : Room := { frames := 0, cells := 0, slots := 0, locals := 0 }
set_option maxHeartbeats 4000000 in
set_option maxRecDepth 100000 in
theorem ct_Ref_place (l : Launch) (D : va_G) (tys : List (ClassId × FieldType)) (mm : Nat) (tA : Nat) (oA : Nat) (sA : Nat) (eA : Nat) (gA : Nat) (cA : Nat) (rA : Nat) (fA : Nat) (fa : Int) (nn : Nat) (pl : Int) (yr : Int) (mn : Int) (dy : Int) (i : Nat)  : mMet l y_Ref_place c_Ref_place 1 (some .int) rm_Ref_place D tys [.ref mm] [(mm, .inr (4, [.int (iI fa), .ref tA, .int (iI ((nn : Int))), .int (iI pl), .int (iI yr), .int (iI mn), .int (iI dy), .int (iI ((i : Int))), .ref oA, .ref sA, .ref eA, .ref gA, .ref cA, .ref rA, .ref fA]))] (some (.int (iI pl))) [(mm, .inr (4, [.int (iI 0), .ref tA, .int (iI ((nn : Int))), .int (iI pl), .int (iI yr), .int (iI mn), .int (iI dy), .int (iI ((i : Int))), .ref oA, .ref sA, .ref eA, .ref gA, .ref cA, .ref rA, .ref fA]))] := by
  refine mMet_of (by decide) (Nat.le_of_ble_eq_true rfl) ?_
  intro p e s m below meth c hx hb hr hown hlk hml hk hK hP hD hS ls hl
  have hl : lv_has ls 1 [(0, .ref mm)] := hl
  refine lv_aload_n hx hb d_Ref_place_0 rfl (lv_at hl 0 rfl) ?_
  refine lv_iconst (v := iI 0) hx hb d_Ref_place_1 rfl ?_
  refine g_put hx hb hk hown hK hP hD hS 0 rfl f_Ref_44 fT_Ref rfl (rfl) rfl (Nat.le_of_ble_eq_true rfl) d_Ref_place_2 (fun H locs hP hD hS => ?_)
  have hP : va_P D vwCl [(mm, .inr (4, [.int (iI 0), .ref tA, .int (iI ((nn : Int))), .int (iI pl), .int (iI yr), .int (iI mn), .int (iI dy), .int (iI ((i : Int))), .ref oA, .ref sA, .ref eA, .ref gA, .ref cA, .ref rA, .ref fA]))] H := hP
  have hD : va_D (wA [(mm, .inr (4, [.int (iI fa), .ref tA, .int (iI ((nn : Int))), .int (iI pl), .int (iI yr), .int (iI mn), .int (iI dy), .int (iI ((i : Int))), .ref oA, .ref sA, .ref eA, .ref gA, .ref cA, .ref rA, .ref fA]))]) [(mm, .inr (4, [.int (iI 0), .ref tA, .int (iI ((nn : Int))), .int (iI pl), .int (iI yr), .int (iI mn), .int (iI dy), .int (iI ((i : Int))), .ref oA, .ref sA, .ref eA, .ref gA, .ref cA, .ref rA, .ref fA]))] := hD
  refine lv_aload_n hx hb d_Ref_place_5 rfl (lv_at hl 0 rfl) ?_
  refine g_get hx hb hk hown hK hP 0 rfl f_Ref_13 rfl d_Ref_place_6 ?_
  exact m_iret hx hb hr hlk hP hS d_Ref_place_9 (by rfl) (by rfl)
abbrev rm_Ref_peek : Room := { frames := 0, cells := 0, slots := 0, locals := 0 }
set_option maxHeartbeats 4000000 in
set_option maxRecDepth 100000 in
theorem ct_Ref_peek (l : Launch) (D : va_G) (tys : List (ClassId × FieldType)) (mm : Nat) (tA : Nat) (oA : Nat) (sA : Nat) (eA : Nat) (gA : Nat) (cA : Nat) (rA : Nat) (fA : Nat) (fa : Int) (nn : Nat) (pl : Int) (yr : Int) (mn : Int) (dy : Int) (i : Nat) (cB : ClassId) (f : Nat → Int32) (hty : tys[0]? = some (cB, .byte)) (gn : nn ≤ 400) (gi : i ≤ nn) : pMet l y_Ref_peek c_Ref_peek 1 (some .int) rm_Ref_peek D tys [.ref mm] [(mm, .inr (4, [.int (iI fa), .ref tA, .int (iI ((nn : Int))), .int (iI pl), .int (iI yr), .int (iI mn), .int (iI dy), .int (iI ((i : Int))), .ref oA, .ref sA, .ref eA, .ref gA, .ref cA, .ref rA, .ref fA])), (tA, .inl (cB, 400, .inl f))] (.int (iI (zPk nn f i))) := by
  refine pMet_of (by decide) (Nat.le_of_ble_eq_true rfl) ?_
  intro p e s m below meth c hx hb hr hown hlk hml hk hK hP hD ls hl
  have hl : lv_has ls 1 [(0, .ref mm)] := hl
  refine lv_aload_n hx hb d_Ref_peek_0 rfl (lv_at hl 0 rfl) ?_
  refine g_get hx hb hk hown hK hP 0 rfl f_Ref_78 rfl d_Ref_peek_1 ?_
  refine lv_aload_n hx hb d_Ref_peek_4 rfl (lv_at hl 0 rfl) ?_
  refine g_get hx hb hk hown hK hP 0 rfl f_Ref_81 rfl d_Ref_peek_5 ?_
  refine ri_icmp_ge (tgt := 27) hx hb d_Ref_peek_8 (by decide) (fun h8 => ?_) (fun h8 => ?_)
  · refine lv_iconst (v := iI (-1)) hx hb d_Ref_peek_27 rfl ?_
    exact p_iret hx hb hr hlk d_Ref_peek_28 (by first | (rw [zPk_out (by omega)]; done) | (rw [zPk_in (by omega)]; done))
  · refine lv_aload_n hx hb d_Ref_peek_11 rfl (lv_at hl 0 rfl) ?_
    refine g_get hx hb hk hown hK hP 0 rfl f_Ref_7 rfl d_Ref_peek_12 ?_
    refine lv_aload_n hx hb d_Ref_peek_15 rfl (lv_at hl 0 rfl) ?_
    refine g_get hx hb hk hown hK hP 0 rfl f_Ref_78 rfl d_Ref_peek_16 ?_
    refine g_bald (i := i) hx hb hK hP 1 0 rfl hty d_Ref_peek_19 ?_
    refine lv_sipush (v := iI 255) hx hb d_Ref_peek_20 (by decide) ?_
    refine lv_iand hx hb d_Ref_peek_23 ?_
    refine ri_v (tv_j _) ?_
    refine lv_goto (tgt := 28) hx hb d_Ref_peek_24 (by decide) ?_
    exact p_iret hx hb hr hlk d_Ref_peek_28 (by first | (rw [zPk_out (by omega)]; done) | (rw [zPk_in (by omega)]; done))
abbrev rm_Ref_bad : Room := { frames := 6, cells := 1, slots := 6, locals := 100 }
set_option maxHeartbeats 4000000 in
set_option maxRecDepth 100000 in
theorem ct_Ref_bad (l : Launch) (D : va_G) (tys : List (ClassId × FieldType)) (aS : Nat) (hoff : l.stackTraces = false) (mm : Nat) (tA : Nat) (oA : Nat) (sA : Nat) (eA : Nat) (gA : Nat) (cA : Nat) (rA : Nat) (fA : Nat) (fa : Int) (nn : Nat) (pl : Int) (yr : Int) (mn : Int) (dy : Int) (i : Nat) (pp : Int)  : xMet l y_Ref_bad c_Ref_bad 2 none rm_Ref_bad D tys aS [.ref mm, .int (iI pp)] [(mm, .inr (4, [.int (iI fa), .ref tA, .int (iI ((nn : Int))), .int (iI pl), .int (iI yr), .int (iI mn), .int (iI dy), .int (iI ((i : Int))), .ref oA, .ref sA, .ref eA, .ref gA, .ref cA, .ref rA, .ref fA]))] none "java/lang/UnsupportedOperationException" [(mm, .inr (4, [.int (iI fa), .ref tA, .int (iI ((nn : Int))), .int (iI pp), .int (iI yr), .int (iI mn), .int (iI dy), .int (iI ((i : Int))), .ref oA, .ref sA, .ref eA, .ref gA, .ref cA, .ref rA, .ref fA]))] := by
  refine xMet_of (by decide) (Nat.le_of_ble_eq_true rfl) ?_
  intro p e s m below meth c hx hb hr hown hlk hml hE hk hK hP hD hS hAS hZ ls hl
  have hl : lv_has ls 2 [(0, .ref mm), (1, .int (iI pp))] := hl
  refine lv_aload_n hx hb d_Ref_bad_0 rfl (lv_at hl 0 rfl) ?_
  refine lv_iload_n hx hb d_Ref_bad_1 rfl (lv_at hl 1 rfl) ?_
  refine g_put hx hb hk hown hK hP hD hS 0 rfl f_Ref_13 fT_Ref rfl (rfl) rfl (Nat.le_of_ble_eq_true rfl) d_Ref_bad_2 (fun H locs hP hD hS => ?_)
  have hP : va_P D vwCl [(mm, .inr (4, [.int (iI fa), .ref tA, .int (iI ((nn : Int))), .int (iI pp), .int (iI yr), .int (iI mn), .int (iI dy), .int (iI ((i : Int))), .ref oA, .ref sA, .ref eA, .ref gA, .ref cA, .ref rA, .ref fA]))] H := hP
  have hD : va_D (wA [(mm, .inr (4, [.int (iI fa), .ref tA, .int (iI ((nn : Int))), .int (iI pl), .int (iI yr), .int (iI mn), .int (iI dy), .int (iI ((i : Int))), .ref oA, .ref sA, .ref eA, .ref gA, .ref cA, .ref rA, .ref fA]))]) [(mm, .inr (4, [.int (iI fa), .ref tA, .int (iI ((nn : Int))), .int (iI pp), .int (iI yr), .int (iI mn), .int (iI dy), .int (iI ((i : Int))), .ref oA, .ref sA, .ref eA, .ref gA, .ref cA, .ref rA, .ref fA]))] := hD
  exact x_throw (rest := []) hx hb hlk (hml.trans hl.1.symm) hE hown hk hoff xw_Ref_75 hP hS hAS hZ d_Ref_bad_5 d_Ref_bad_8 d_Ref_bad_9 d_Ref_bad_12 (by rfl) rfl ⟨by decide, by decide, by decide, by decide⟩
abbrev rm_Ref_expect : Room := { frames := 1, cells := 0, slots := 0, locals := 20 }
set_option maxHeartbeats 4000000 in
set_option maxRecDepth 100000 in
theorem ct_Ref_expect (l : Launch) (D : va_G) (tys : List (ClassId × FieldType)) (mm : Nat) (tA : Nat) (oA : Nat) (sA : Nat) (eA : Nat) (gA : Nat) (cA : Nat) (rA : Nat) (fA : Nat) (fa : Int) (nn : Nat) (pl : Int) (yr : Int) (mn : Int) (dy : Int) (i : Nat) (cB : ClassId) (f : Nat → Int32) (w : Int) (hty : tys[0]? = some (cB, .byte)) (gn : nn ≤ 400) (gi : i ≤ nn) (gw1 : 0 ≤ w) (gw2 : w ≤ 65535) (gq : zPk nn f i = w) : mMet l y_Ref_expect c_Ref_expect 2 none rm_Ref_expect D tys [.ref mm, .int (iI w)] [(mm, .inr (4, [.int (iI fa), .ref tA, .int (iI ((nn : Int))), .int (iI pl), .int (iI yr), .int (iI mn), .int (iI dy), .int (iI ((i : Int))), .ref oA, .ref sA, .ref eA, .ref gA, .ref cA, .ref rA, .ref fA])), (tA, .inl (cB, 400, .inl f))] none [(mm, .inr (4, [.int (iI fa), .ref tA, .int (iI ((nn : Int))), .int (iI pl), .int (iI yr), .int (iI mn), .int (iI dy), .int (iI (((i + 1 : Nat) : Int))), .ref oA, .ref sA, .ref eA, .ref gA, .ref cA, .ref rA, .ref fA])), (tA, .inl (cB, 400, .inl f))] := by
  refine mMet_of (by decide) (Nat.le_of_ble_eq_true rfl) ?_
  intro p e s m below meth c hx hb hr hown hlk hml hk hK hP hD hS ls hl
  have hl : lv_has ls 2 [(0, .ref mm), (1, .int (iI w))] := hl
  have gP := zPk_b nn f i
  refine lv_aload_n hx hb d_Ref_expect_0 rfl (lv_at hl 0 rfl) ?_
  refine p_callV (rest := []) (q0 := 0) hx hb (hml.trans hl.1.symm) hown hk hK k_Ref_84 (ct_Ref_peek l D tys mm tA oA sA eA gA cA rA fA fa nn pl yr mn dy i cB f hty (by omega) (by omega)) (w_subP (is := [0, 1]) hP rfl) (w_subD (is := [0, 1]) hD rfl rfl) rfl rfl rfl rfl ⟨rfl, rfl⟩ ⟨by decide, by decide, by decide, by decide⟩ (Nat.le_of_ble_eq_true rfl) d_Ref_expect_1 ?_
  refine lv_iload_n hx hb d_Ref_expect_4 rfl (lv_at hl 1 rfl) ?_
  refine ri_icmp_eq (tgt := 16) hx hb d_Ref_expect_5 (by decide) (fun h5 => ?_) (fun h5 => ?_)
  · refine lv_aload_n hx hb d_Ref_expect_16 rfl (lv_at hl 0 rfl) ?_
    refine lv_dup hx hb d_Ref_expect_17 rfl ?_
    refine g_get hx hb hk hown hK hP 0 rfl f_Ref_78 rfl d_Ref_expect_18 ?_
    refine lv_iconst (v := iI 1) hx hb d_Ref_expect_21 rfl ?_
    refine ri_iadd hx hb d_Ref_expect_22 ?_
    refine ri_i (show ((i : Int)) + 1 = ((i + 1 : Nat) : Int) from by omega) ?_
    refine g_put hx hb hk hown hK hP hD hS 0 rfl f_Ref_78 fT_Ref rfl (rfl) rfl (Nat.le_of_ble_eq_true rfl) d_Ref_expect_23 (fun H locs hP hD hS => ?_)
    have hP : va_P D vwCl [(mm, .inr (4, [.int (iI fa), .ref tA, .int (iI ((nn : Int))), .int (iI pl), .int (iI yr), .int (iI mn), .int (iI dy), .int (iI (((i + 1 : Nat) : Int))), .ref oA, .ref sA, .ref eA, .ref gA, .ref cA, .ref rA, .ref fA])), (tA, .inl (cB, 400, .inl f))] H := hP
    have hD : va_D (wA [(mm, .inr (4, [.int (iI fa), .ref tA, .int (iI ((nn : Int))), .int (iI pl), .int (iI yr), .int (iI mn), .int (iI dy), .int (iI ((i : Int))), .ref oA, .ref sA, .ref eA, .ref gA, .ref cA, .ref rA, .ref fA])), (tA, .inl (cB, 400, .inl f))]) [(mm, .inr (4, [.int (iI fa), .ref tA, .int (iI ((nn : Int))), .int (iI pl), .int (iI yr), .int (iI mn), .int (iI dy), .int (iI (((i + 1 : Nat) : Int))), .ref oA, .ref sA, .ref eA, .ref gA, .ref cA, .ref rA, .ref fA])), (tA, .inl (cB, 400, .inl f))] := hD
    exact m_vret hx hb hr hlk hP hS d_Ref_expect_26 (by rfl)
  · exfalso; omega
abbrev rm_Ref_expect_x : Room := { frames := 7, cells := 1, slots := 6, locals := 121 }
set_option maxHeartbeats 4000000 in
set_option maxRecDepth 100000 in
theorem ct_Ref_expect_x (l : Launch) (D : va_G) (tys : List (ClassId × FieldType)) (aS : Nat) (hoff : l.stackTraces = false) (mm : Nat) (tA : Nat) (oA : Nat) (sA : Nat) (eA : Nat) (gA : Nat) (cA : Nat) (rA : Nat) (fA : Nat) (fa : Int) (nn : Nat) (pl : Int) (yr : Int) (mn : Int) (dy : Int) (i : Nat) (cB : ClassId) (f : Nat → Int32) (w : Int) (hty : tys[0]? = some (cB, .byte)) (gn : nn ≤ 400) (gi : i ≤ nn) (gw1 : 0 ≤ w) (gw2 : w ≤ 65535) (gq : zPk nn f i ≠ w) : xMet l y_Ref_expect c_Ref_expect 2 none rm_Ref_expect_x D tys aS [.ref mm, .int (iI w)] [(mm, .inr (4, [.int (iI fa), .ref tA, .int (iI ((nn : Int))), .int (iI pl), .int (iI yr), .int (iI mn), .int (iI dy), .int (iI ((i : Int))), .ref oA, .ref sA, .ref eA, .ref gA, .ref cA, .ref rA, .ref fA])), (tA, .inl (cB, 400, .inl f))] none "java/lang/UnsupportedOperationException" [(mm, .inr (4, [.int (iI fa), .ref tA, .int (iI ((nn : Int))), .int (iI ((i : Int))), .int (iI yr), .int (iI mn), .int (iI dy), .int (iI ((i : Int))), .ref oA, .ref sA, .ref eA, .ref gA, .ref cA, .ref rA, .ref fA])), (tA, .inl (cB, 400, .inl f))] := by
  refine xMet_of (by decide) (Nat.le_of_ble_eq_true rfl) ?_
  intro p e s m below meth c hx hb hr hown hlk hml hE hk hK hP hD hS hAS hZ ls hl
  have hl : lv_has ls 2 [(0, .ref mm), (1, .int (iI w))] := hl
  have gP := zPk_b nn f i
  refine lv_aload_n hx hb d_Ref_expect_0 rfl (lv_at hl 0 rfl) ?_
  refine p_callV (rest := []) (q0 := 0) hx hb (hml.trans hl.1.symm) hown hk hK k_Ref_84 (ct_Ref_peek l D tys mm tA oA sA eA gA cA rA fA fa nn pl yr mn dy i cB f hty (by omega) (by omega)) (w_subP (is := [0, 1]) hP rfl) (w_subD (is := [0, 1]) hD rfl rfl) rfl rfl rfl rfl ⟨rfl, rfl⟩ ⟨by decide, by decide, by decide, by decide⟩ (Nat.le_of_ble_eq_true rfl) d_Ref_expect_1 ?_
  refine lv_iload_n hx hb d_Ref_expect_4 rfl (lv_at hl 1 rfl) ?_
  refine ri_icmp_eq (tgt := 16) hx hb d_Ref_expect_5 (by decide) (fun h5 => ?_) (fun h5 => ?_)
  · exfalso; omega
  · refine lv_aload_n hx hb d_Ref_expect_8 rfl (lv_at hl 0 rfl) ?_
    refine lv_aload_n hx hb d_Ref_expect_9 rfl (lv_at hl 0 rfl) ?_
    refine g_get hx hb hk hown hK hP 0 rfl f_Ref_78 rfl d_Ref_expect_10 ?_
    exact x_thr (x_runV (rest := []) (q0 := 0) hx hb (hml.trans hl.1.symm) hown hk hK k_Ref_88 (ct_Ref_bad l D tys aS hoff mm tA oA sA eA gA cA rA fA fa nn pl yr mn dy i ((i : Int)) ) (w_subP (is := [0]) hP rfl) (x_subD (is := [0]) hD hAS rfl rfl) (x_zH hZ hS hAS) rfl rfl rfl rfl ⟨by decide, by decide, by decide, by decide⟩ (Nat.le_of_ble_eq_true rfl) d_Ref_expect_13) hE hlk hP hD hS [0] rfl rfl (by rfl) rfl
abbrev rm_Ref_blanks : Room := { frames := 1, cells := 0, slots := 0, locals := 20 }
set_option maxHeartbeats 4000000 in
set_option maxRecDepth 100000 in
theorem ct_Ref_blanks (l : Launch) (D : va_G) (tys : List (ClassId × FieldType)) (mm : Nat) (tA : Nat) (oA : Nat) (sA : Nat) (eA : Nat) (gA : Nat) (cA : Nat) (rA : Nat) (fA : Nat) (fa : Int) (nn : Nat) (pl : Int) (yr : Int) (mn : Int) (dy : Int) (i : Nat) (cB : ClassId) (f : Nat → Int32) (hty : tys[0]? = some (cB, .byte)) (gn : nn ≤ 400) (gi : i ≤ nn) (gq : zPk nn f i = 32) : mMet l y_Ref_blanks c_Ref_blanks 1 none rm_Ref_blanks D tys [.ref mm] [(mm, .inr (4, [.int (iI fa), .ref tA, .int (iI ((nn : Int))), .int (iI pl), .int (iI yr), .int (iI mn), .int (iI dy), .int (iI ((i : Int))), .ref oA, .ref sA, .ref eA, .ref gA, .ref cA, .ref rA, .ref fA])), (tA, .inl (cB, 400, .inl f))] none [(mm, .inr (4, [.int (iI fa), .ref tA, .int (iI ((nn : Int))), .int (iI pl), .int (iI yr), .int (iI mn), .int (iI dy), .int (iI ((((zBl nn f (i, false)).1 : Nat) : Int))), .ref oA, .ref sA, .ref eA, .ref gA, .ref cA, .ref rA, .ref fA])), (tA, .inl (cB, 400, .inl f))] := by
  refine mMet_of (by decide) (Nat.le_of_ble_eq_true rfl) ?_
  intro p e s m below meth c hx hb hr hown hlk hml hk hK hP hD hS ls hl
  have hl : lv_has ls 1 [(0, .ref mm)] := hl
  have gP := zPk_b nn f i
  refine lv_aload_n hx hb d_Ref_blanks_0 rfl (lv_at hl 0 rfl) ?_
  refine p_callV (rest := []) (q0 := 0) hx hb (hml.trans hl.1.symm) hown hk hK k_Ref_84 (ct_Ref_peek l D tys mm tA oA sA eA gA cA rA fA fa nn pl yr mn dy i cB f hty (by omega) (by omega)) (w_subP (is := [0, 1]) hP rfl) (w_subD (is := [0, 1]) hD rfl rfl) rfl rfl rfl rfl ⟨rfl, rfl⟩ ⟨by decide, by decide, by decide, by decide⟩ (Nat.le_of_ble_eq_true rfl) d_Ref_blanks_1 ?_
  refine lv_bipush (v := iI 32) hx hb d_Ref_blanks_4 (by decide) ?_
  refine ri_icmp_eq (tgt := 17) hx hb d_Ref_blanks_6 (by decide) (fun h6 => ?_) (fun h6 => ?_)
  · have loop17 : ∀ (n : Nat) (j : Nat) (ls : Array Slot) (H : Heap) (locs : List Loc), (j ≤ nn) → (zSkip f (nn - i) i = zSkip f (nn - j) j) → nn - j = n → va_P D vwCl [(mm, .inr (4, [.int (iI fa), .ref tA, .int (iI ((nn : Int))), .int (iI pl), .int (iI yr), .int (iI mn), .int (iI dy), .int (iI ((j : Int))), .ref oA, .ref sA, .ref eA, .ref gA, .ref cA, .ref rA, .ref fA])), (tA, .inl (cB, 400, .inl f))] H → va_D (wA [(mm, .inr (4, [.int (iI fa), .ref tA, .int (iI ((nn : Int))), .int (iI pl), .int (iI yr), .int (iI mn), .int (iI dy), .int (iI ((i : Int))), .ref oA, .ref sA, .ref eA, .ref gA, .ref cA, .ref rA, .ref fA])), (tA, .inl (cB, 400, .inl f))]) [(mm, .inr (4, [.int (iI fa), .ref tA, .int (iI ((nn : Int))), .int (iI pl), .int (iI yr), .int (iI mn), .int (iI dy), .int (iI ((j : Int))), .ref oA, .ref sA, .ref eA, .ref gA, .ref cA, .ref rA, .ref fA])), (tA, .inl (cB, 400, .inl f))] → va_S (wA [(mm, .inr (4, [.int (iI fa), .ref tA, .int (iI ((nn : Int))), .int (iI pl), .int (iI yr), .int (iI mn), .int (iI dy), .int (iI ((i : Int))), .ref oA, .ref sA, .ref eA, .ref gA, .ref cA, .ref rA, .ref fA])), (tA, .inl (cB, 400, .inl f))]) s.heap H locs → lv_has ls 1 [(0, .ref mm)] → W p l e rm_Ref_blanks s m ([.ref mm] : List Value).toArray below meth c H locs 0 0 (MQ below (mQ D [(mm, .inr (4, [.int (iI fa), .ref tA, .int (iI ((nn : Int))), .int (iI pl), .int (iI yr), .int (iI mn), .int (iI dy), .int (iI ((i : Int))), .ref oA, .ref sA, .ref eA, .ref gA, .ref cA, .ref rA, .ref fA])), (tA, .inl (cB, 400, .inl f))] none [(mm, .inr (4, [.int (iI fa), .ref tA, .int (iI ((nn : Int))), .int (iI pl), .int (iI yr), .int (iI mn), .int (iI dy), .int (iI ((((zBl nn f (i, false)).1 : Nat) : Int))), .ref oA, .ref sA, .ref eA, .ref gA, .ref cA, .ref rA, .ref fA])), (tA, .inl (cB, 400, .inl f))]) ([.ref mm] : List Value).toArray s 0 0 (wA [(mm, .inr (4, [.int (iI fa), .ref tA, .int (iI ((nn : Int))), .int (iI pl), .int (iI yr), .int (iI mn), .int (iI dy), .int (iI ((i : Int))), .ref oA, .ref sA, .ref eA, .ref gA, .ref cA, .ref rA, .ref fA])), (tA, .inl (cB, 400, .inl f))])) (F0 m 17 ls []) := by
      intro n
      induction n using Nat.strongRecOn with
      | _ n ih =>
      intro j ls H locs hj hv hn hP hD hS hl
      have gP2 := zPk_b nn f j
      refine lv_aload_n hx hb d_Ref_blanks_17 rfl (lv_at hl 0 rfl) ?_
      refine p_callV (rest := []) (q0 := 0) hx hb (hml.trans hl.1.symm) hown hk hK k_Ref_84 (ct_Ref_peek l D tys mm tA oA sA eA gA cA rA fA fa nn pl yr mn dy j cB f hty (by omega) (by omega)) (w_subP (is := [0, 1]) hP rfl) (w_subD (is := [0, 1]) hD rfl rfl) rfl rfl rfl rfl ⟨rfl, rfl⟩ ⟨by decide, by decide, by decide, by decide⟩ (Nat.le_of_ble_eq_true rfl) d_Ref_blanks_18 ?_
      refine lv_bipush (v := iI 32) hx hb d_Ref_blanks_21 (by decide) ?_
      refine ri_icmp_ne (tgt := 39) hx hb d_Ref_blanks_23 (by decide) (fun h23 => ?_) (fun h23 => ?_)
      · have hR : zSkip f (nn - j) j = j := by
          by_cases hjn : j < nn
          · exact zSkip_at (f := f) (n := nn) (j := j) hjn (by rw [← zPk_in (n := nn) (f := f) (i := j) hjn]; exact h23)
          · exact zSkip_end (f := f) (n := nn) (j := j) (by omega)
        exact m_vret hx hb hr hlk hP hS d_Ref_blanks_39 (by rw [zBl_go gq, hv, hR])
      · have gj : j < nn := zPk_lt (f := f) (by omega)
        refine lv_aload_n hx hb d_Ref_blanks_26 rfl (lv_at hl 0 rfl) ?_
        refine lv_dup hx hb d_Ref_blanks_27 rfl ?_
        refine g_get hx hb hk hown hK hP 0 rfl f_Ref_78 rfl d_Ref_blanks_28 ?_
        refine lv_iconst (v := iI 1) hx hb d_Ref_blanks_31 rfl ?_
        refine ri_iadd hx hb d_Ref_blanks_32 ?_
        refine ri_i (show ((j : Int)) + 1 = ((j + 1 : Nat) : Int) from by omega) ?_
        refine g_put hx hb hk hown hK hP hD hS 0 rfl f_Ref_78 fT_Ref rfl (rfl) rfl (Nat.le_of_ble_eq_true rfl) d_Ref_blanks_33 (fun H locs hP hD hS => ?_)
        have hP : va_P D vwCl [(mm, .inr (4, [.int (iI fa), .ref tA, .int (iI ((nn : Int))), .int (iI pl), .int (iI yr), .int (iI mn), .int (iI dy), .int (iI (((j + 1 : Nat) : Int))), .ref oA, .ref sA, .ref eA, .ref gA, .ref cA, .ref rA, .ref fA])), (tA, .inl (cB, 400, .inl f))] H := hP
        have hD : va_D (wA [(mm, .inr (4, [.int (iI fa), .ref tA, .int (iI ((nn : Int))), .int (iI pl), .int (iI yr), .int (iI mn), .int (iI dy), .int (iI ((i : Int))), .ref oA, .ref sA, .ref eA, .ref gA, .ref cA, .ref rA, .ref fA])), (tA, .inl (cB, 400, .inl f))]) [(mm, .inr (4, [.int (iI fa), .ref tA, .int (iI ((nn : Int))), .int (iI pl), .int (iI yr), .int (iI mn), .int (iI dy), .int (iI (((j + 1 : Nat) : Int))), .ref oA, .ref sA, .ref eA, .ref gA, .ref cA, .ref rA, .ref fA])), (tA, .inl (cB, 400, .inl f))] := hD
        refine lv_goto (tgt := 17) hx hb d_Ref_blanks_36 (by decide) ?_
        exact ih _ (by omega) (j + 1) ls _ _ gj (by rw [hv, zSkip_go (f := f) (n := nn) (j := j) gj (by rw [← zPk_in (n := nn) (f := f) (i := j) gj]; exact h23)]) rfl hP hD hS (lv_sub hl [0] rfl)
    exact loop17 _ i ls _ _ gi rfl rfl hP hD hS (lv_sub hl [0] rfl)
  · exfalso; omega
abbrev rm_Ref_blanks_x : Room := { frames := 7, cells := 1, slots := 6, locals := 121 }
set_option maxHeartbeats 4000000 in
set_option maxRecDepth 100000 in
theorem ct_Ref_blanks_x (l : Launch) (D : va_G) (tys : List (ClassId × FieldType)) (aS : Nat) (hoff : l.stackTraces = false) (mm : Nat) (tA : Nat) (oA : Nat) (sA : Nat) (eA : Nat) (gA : Nat) (cA : Nat) (rA : Nat) (fA : Nat) (fa : Int) (nn : Nat) (pl : Int) (yr : Int) (mn : Int) (dy : Int) (i : Nat) (cB : ClassId) (f : Nat → Int32) (hty : tys[0]? = some (cB, .byte)) (gn : nn ≤ 400) (gi : i ≤ nn) (gq : zPk nn f i ≠ 32) : xMet l y_Ref_blanks c_Ref_blanks 1 none rm_Ref_blanks_x D tys aS [.ref mm] [(mm, .inr (4, [.int (iI fa), .ref tA, .int (iI ((nn : Int))), .int (iI pl), .int (iI yr), .int (iI mn), .int (iI dy), .int (iI ((i : Int))), .ref oA, .ref sA, .ref eA, .ref gA, .ref cA, .ref rA, .ref fA])), (tA, .inl (cB, 400, .inl f))] none "java/lang/UnsupportedOperationException" [(mm, .inr (4, [.int (iI fa), .ref tA, .int (iI ((nn : Int))), .int (iI ((i : Int))), .int (iI yr), .int (iI mn), .int (iI dy), .int (iI ((i : Int))), .ref oA, .ref sA, .ref eA, .ref gA, .ref cA, .ref rA, .ref fA])), (tA, .inl (cB, 400, .inl f))] := by
  refine xMet_of (by decide) (Nat.le_of_ble_eq_true rfl) ?_
  intro p e s m below meth c hx hb hr hown hlk hml hE hk hK hP hD hS hAS hZ ls hl
  have hl : lv_has ls 1 [(0, .ref mm)] := hl
  have gP := zPk_b nn f i
  refine lv_aload_n hx hb d_Ref_blanks_0 rfl (lv_at hl 0 rfl) ?_
  refine p_callV (rest := []) (q0 := 0) hx hb (hml.trans hl.1.symm) hown hk hK k_Ref_84 (ct_Ref_peek l D tys mm tA oA sA eA gA cA rA fA fa nn pl yr mn dy i cB f hty (by omega) (by omega)) (w_subP (is := [0, 1]) hP rfl) (w_subD (is := [0, 1]) hD rfl rfl) rfl rfl rfl rfl ⟨rfl, rfl⟩ ⟨by decide, by decide, by decide, by decide⟩ (Nat.le_of_ble_eq_true rfl) d_Ref_blanks_1 ?_
  refine lv_bipush (v := iI 32) hx hb d_Ref_blanks_4 (by decide) ?_
  refine ri_icmp_eq (tgt := 17) hx hb d_Ref_blanks_6 (by decide) (fun h6 => ?_) (fun h6 => ?_)
  · exfalso; omega
  · refine lv_aload_n hx hb d_Ref_blanks_9 rfl (lv_at hl 0 rfl) ?_
    refine lv_aload_n hx hb d_Ref_blanks_10 rfl (lv_at hl 0 rfl) ?_
    refine g_get hx hb hk hown hK hP 0 rfl f_Ref_78 rfl d_Ref_blanks_11 ?_
    exact x_thr (x_runV (rest := []) (q0 := 0) hx hb (hml.trans hl.1.symm) hown hk hK k_Ref_88 (ct_Ref_bad l D tys aS hoff mm tA oA sA eA gA cA rA fA fa nn pl yr mn dy i ((i : Int)) ) (w_subP (is := [0]) hP rfl) (x_subD (is := [0]) hD hAS rfl rfl) (x_zH hZ hS hAS) rfl rfl rfl rfl ⟨by decide, by decide, by decide, by decide⟩ (Nat.le_of_ble_eq_true rfl) d_Ref_blanks_14) hE hlk hP hD hS [0] rfl rfl (by rfl) rfl
abbrev rm_Ref_ranged : Room := { frames := 1, cells := 0, slots := 0, locals := 21 }
set_option maxHeartbeats 4000000 in
set_option maxRecDepth 100000 in
theorem ct_Ref_ranged (l : Launch) (D : va_G) (tys : List (ClassId × FieldType)) (mm : Nat) (tA : Nat) (oA : Nat) (sA : Nat) (eA : Nat) (gA : Nat) (cA : Nat) (rA : Nat) (fA : Nat) (fa : Int) (nn : Nat) (pl : Int) (yr : Int) (mn : Int) (dy : Int) (i : Nat) (cB : ClassId) (f : Nat → Int32) (lo : Int) (hi : Int) (hty : tys[0]? = some (cB, .byte)) (gn : nn ≤ 400) (gi : i ≤ nn) (gl1 : 0 ≤ lo) (gl2 : lo ≤ 100000) (gh1 : 0 ≤ hi) (gh2 : hi ≤ 100000) (gq : lo ≤ (zDg nn f i).1 ∧ (zDg nn f i).1 ≤ hi) : mMet l y_Ref_ranged c_Ref_ranged 5 (some .int) rm_Ref_ranged D tys [.ref mm, .int (iI lo), .int (iI hi)] [(mm, .inr (4, [.int (iI fa), .ref tA, .int (iI ((nn : Int))), .int (iI pl), .int (iI yr), .int (iI mn), .int (iI dy), .int (iI ((i : Int))), .ref oA, .ref sA, .ref eA, .ref gA, .ref cA, .ref rA, .ref fA])), (tA, .inl (cB, 400, .inl f))] (some (.int (iI ((zDg nn f i).1)))) [(mm, .inr (4, [.int (iI fa), .ref tA, .int (iI ((nn : Int))), .int (iI pl), .int (iI yr), .int (iI mn), .int (iI dy), .int (iI ((((zDg nn f i).2 : Nat) : Int))), .ref oA, .ref sA, .ref eA, .ref gA, .ref cA, .ref rA, .ref fA])), (tA, .inl (cB, 400, .inl f))] := by
  refine mMet_of (by decide) (Nat.le_of_ble_eq_true rfl) ?_
  intro p e s m below meth c hx hb hr hown hlk hml hk hK hP hD hS ls hl
  have hl : lv_has ls 5 [(0, .ref mm), (1, .int (iI lo)), (2, .int (iI hi))] := hl
  have gP := zPk_b nn f i
  refine lv_aload_n hx hb d_Ref_ranged_0 rfl (lv_at hl 0 rfl) ?_
  refine g_get hx hb hk hown hK hP 0 rfl f_Ref_78 rfl d_Ref_ranged_1 ?_
  refine lv_istore_n (lv' := [(3, .int (iI ((i : Int)))), (0, .ref mm), (1, .int (iI lo)), (2, .int (iI hi))]) hx hb d_Ref_ranged_4 rfl hl (by decide) rfl (fun ls hl => ?_)
  refine lv_aload_n hx hb d_Ref_ranged_5 rfl (lv_at hl 1 rfl) ?_
  refine p_callV (rest := []) (q0 := 0) hx hb (hml.trans hl.1.symm) hown hk hK k_Ref_84 (ct_Ref_peek l D tys mm tA oA sA eA gA cA rA fA fa nn pl yr mn dy i cB f hty (by omega) (by omega)) (w_subP (is := [0, 1]) hP rfl) (w_subD (is := [0, 1]) hD rfl rfl) rfl rfl rfl rfl ⟨rfl, rfl⟩ ⟨by decide, by decide, by decide, by decide⟩ (Nat.le_of_ble_eq_true rfl) d_Ref_ranged_6 ?_
  refine p_callS (rest := []) hx hb (hml.trans hl.1.symm) hown hk hK k_Ref_92 (ct_Ref_digit l D tys (zPk nn f i) (by omega) (by omega)) nil_P nil_D rfl rfl ⟨rfl, rfl⟩ ⟨by decide, by decide, by decide, by decide⟩ (Nat.le_of_ble_eq_true rfl) d_Ref_ranged_9 ?_
  have gB := bI_b (zDigB (zPk nn f i))
  refine ri_if_ne (tgt := 23) hx hb d_Ref_ranged_12 (by decide) (fun h12 => ?_) (fun h12 => ?_)
  · have gd := zDigB_t h12
    have gl : i < nn := zPk_lt (f := f) (by omega)
    refine lv_iconst (v := iI 0) hx hb d_Ref_ranged_23 rfl ?_
    refine lv_istore (lv' := [(4, .int (iI 0)), (3, .int (iI ((i : Int)))), (0, .ref mm), (1, .int (iI lo)), (2, .int (iI hi))]) hx hb d_Ref_ranged_24 hl (by decide) rfl (fun ls hl => ?_)
    refine lv_aload_n hx hb d_Ref_ranged_26 rfl (lv_at hl 2 rfl) ?_
    refine p_callV (rest := []) (q0 := 0) hx hb (hml.trans hl.1.symm) hown hk hK k_Ref_84 (ct_Ref_peek l D tys mm tA oA sA eA gA cA rA fA fa nn pl yr mn dy i cB f hty (by omega) (by omega)) (w_subP (is := [0, 1]) hP rfl) (w_subD (is := [0, 1]) hD rfl rfl) rfl rfl rfl rfl ⟨rfl, rfl⟩ ⟨by decide, by decide, by decide, by decide⟩ (Nat.le_of_ble_eq_true rfl) d_Ref_ranged_27 ?_
    refine lv_bipush (v := iI 48) hx hb d_Ref_ranged_30 (by decide) ?_
    refine ri_icmp_ne (tgt := 48) hx hb d_Ref_ranged_32 (by decide) (fun h32 => ?_) (fun h32 => ?_)
    · have loop48 : ∀ (n : Nat) (j : Nat) (v : Int) (ls : Array Slot) (H : Heap) (locs : List Loc), (j ≤ nn) → (0 ≤ v) → (v ≤ 100000) → (zDg nn f i = zRun f (nn - j) j v) → nn - j = n → va_P D vwCl [(mm, .inr (4, [.int (iI fa), .ref tA, .int (iI ((nn : Int))), .int (iI pl), .int (iI yr), .int (iI mn), .int (iI dy), .int (iI ((j : Int))), .ref oA, .ref sA, .ref eA, .ref gA, .ref cA, .ref rA, .ref fA])), (tA, .inl (cB, 400, .inl f))] H → va_D (wA [(mm, .inr (4, [.int (iI fa), .ref tA, .int (iI ((nn : Int))), .int (iI pl), .int (iI yr), .int (iI mn), .int (iI dy), .int (iI ((i : Int))), .ref oA, .ref sA, .ref eA, .ref gA, .ref cA, .ref rA, .ref fA])), (tA, .inl (cB, 400, .inl f))]) [(mm, .inr (4, [.int (iI fa), .ref tA, .int (iI ((nn : Int))), .int (iI pl), .int (iI yr), .int (iI mn), .int (iI dy), .int (iI ((j : Int))), .ref oA, .ref sA, .ref eA, .ref gA, .ref cA, .ref rA, .ref fA])), (tA, .inl (cB, 400, .inl f))] → va_S (wA [(mm, .inr (4, [.int (iI fa), .ref tA, .int (iI ((nn : Int))), .int (iI pl), .int (iI yr), .int (iI mn), .int (iI dy), .int (iI ((i : Int))), .ref oA, .ref sA, .ref eA, .ref gA, .ref cA, .ref rA, .ref fA])), (tA, .inl (cB, 400, .inl f))]) s.heap H locs → lv_has ls 5 [(4, .int (iI v)), (3, .int (iI ((i : Int)))), (0, .ref mm), (1, .int (iI lo)), (2, .int (iI hi))] → W p l e rm_Ref_ranged s m ([.ref mm, .int (iI lo), .int (iI hi)] : List Value).toArray below meth c H locs 0 0 (MQ below (mQ D [(mm, .inr (4, [.int (iI fa), .ref tA, .int (iI ((nn : Int))), .int (iI pl), .int (iI yr), .int (iI mn), .int (iI dy), .int (iI ((i : Int))), .ref oA, .ref sA, .ref eA, .ref gA, .ref cA, .ref rA, .ref fA])), (tA, .inl (cB, 400, .inl f))] (some (.int (iI ((zDg nn f i).1)))) [(mm, .inr (4, [.int (iI fa), .ref tA, .int (iI ((nn : Int))), .int (iI pl), .int (iI yr), .int (iI mn), .int (iI dy), .int (iI ((((zDg nn f i).2 : Nat) : Int))), .ref oA, .ref sA, .ref eA, .ref gA, .ref cA, .ref rA, .ref fA])), (tA, .inl (cB, 400, .inl f))]) ([.ref mm, .int (iI lo), .int (iI hi)] : List Value).toArray s 0 0 (wA [(mm, .inr (4, [.int (iI fa), .ref tA, .int (iI ((nn : Int))), .int (iI pl), .int (iI yr), .int (iI mn), .int (iI dy), .int (iI ((i : Int))), .ref oA, .ref sA, .ref eA, .ref gA, .ref cA, .ref rA, .ref fA])), (tA, .inl (cB, 400, .inl f))])) (F0 m 48 ls []) := by
        intro n
        induction n using Nat.strongRecOn with
        | _ n ih =>
        intro j v ls H locs hj hv1 hv2 hv hn hP hD hS hl
        have gP2 := zPk_b nn f j
        refine lv_aload_n hx hb d_Ref_ranged_48 rfl (lv_at hl 2 rfl) ?_
        refine p_callV (rest := []) (q0 := 0) hx hb (hml.trans hl.1.symm) hown hk hK k_Ref_84 (ct_Ref_peek l D tys mm tA oA sA eA gA cA rA fA fa nn pl yr mn dy j cB f hty (by omega) (by omega)) (w_subP (is := [0, 1]) hP rfl) (w_subD (is := [0, 1]) hD rfl rfl) rfl rfl rfl rfl ⟨rfl, rfl⟩ ⟨by decide, by decide, by decide, by decide⟩ (Nat.le_of_ble_eq_true rfl) d_Ref_ranged_49 ?_
        refine p_callS (rest := []) hx hb (hml.trans hl.1.symm) hown hk hK k_Ref_92 (ct_Ref_digit l D tys (zPk nn f j) (by omega) (by omega)) nil_P nil_D rfl rfl ⟨rfl, rfl⟩ ⟨by decide, by decide, by decide, by decide⟩ (Nat.le_of_ble_eq_true rfl) d_Ref_ranged_52 ?_
        have gB := bI_b (zDigB (zPk nn f j))
        refine ri_if_eq (tgt := 91) hx hb d_Ref_ranged_55 (by decide) (fun h55 => ?_) (fun h55 => ?_)
        · have hR : zDg nn f i = (v, j) := by
            rw [hv]
            by_cases hjn : j < nn
            · exact zRun_at (f := f) (n := nn) (j := j) hjn (by rw [← zPk_in (n := nn) (f := f) (i := j) hjn]; exact zDigB_f h55)
            · exact zRun_end (f := f) (n := nn) (j := j) (by omega)
          rw [hR] at gq
          simp only at gq
          refine lv_iload hx hb d_Ref_ranged_91 (lv_at hl 0 rfl) ?_
          refine lv_iload_n hx hb d_Ref_ranged_93 rfl (lv_at hl 3 rfl) ?_
          refine ri_icmp_lt (tgt := 103) hx hb d_Ref_ranged_94 (by decide) (fun h94 => ?_) (fun h94 => ?_)
          · exfalso; omega
          · refine lv_iload hx hb d_Ref_ranged_97 (lv_at hl 0 rfl) ?_
            refine lv_iload_n hx hb d_Ref_ranged_99 rfl (lv_at hl 4 rfl) ?_
            refine ri_icmp_le (tgt := 108) hx hb d_Ref_ranged_100 (by decide) (fun h100 => ?_) (fun h100 => ?_)
            · refine lv_iload hx hb d_Ref_ranged_108 (lv_at hl 0 rfl) ?_
              exact m_iret hx hb hr hlk hP hS d_Ref_ranged_110 (by rw [hR]) (by rw [hR])
            · exfalso; omega
        · have ge := zDigB_t h55
          have gj : j < nn := zPk_lt (f := f) (by omega)
          refine lv_bipush (v := iI 10) hx hb d_Ref_ranged_58 (by decide) ?_
          refine lv_iload hx hb d_Ref_ranged_60 (lv_at hl 0 rfl) ?_
          refine ri_imul hx hb d_Ref_ranged_62 ?_
          refine lv_aload_n hx hb d_Ref_ranged_63 rfl (lv_at hl 2 rfl) ?_
          refine p_callV (rest := [.int (iI (10 * v))]) (q0 := 0) hx hb (hml.trans hl.1.symm) hown hk hK k_Ref_84 (ct_Ref_peek l D tys mm tA oA sA eA gA cA rA fA fa nn pl yr mn dy j cB f hty (by omega) (by omega)) (w_subP (is := [0, 1]) hP rfl) (w_subD (is := [0, 1]) hD rfl rfl) rfl rfl rfl rfl ⟨rfl, rfl⟩ ⟨by decide, by decide, by decide, by decide⟩ (Nat.le_of_ble_eq_true rfl) d_Ref_ranged_64 ?_
          refine ri_iadd hx hb d_Ref_ranged_67 ?_
          refine lv_bipush (v := iI 48) hx hb d_Ref_ranged_68 (by decide) ?_
          refine ri_isub hx hb d_Ref_ranged_70 ?_
          refine lv_ldc (v := iI 100000) hx hb hown (hk _ kc_Ref_95 _) d_Ref_ranged_71 ?_
          refine p_callS (rest := []) hx hb (hml.trans hl.1.symm) hown hk hK k_Ref_96 (ct_Math_minI l D tys (((10 * v) + (zPk nn f j)) - 48) 100000 (by omega) (by omega) (by omega) (by omega)) nil_P nil_D rfl rfl ⟨rfl, rfl⟩ ⟨by decide, by decide, by decide, by decide⟩ (Nat.le_of_ble_eq_true rfl) d_Ref_ranged_73 ?_
          refine lv_istore (lv' := [(4, .int (iI (min (((10 * v) + (zPk nn f j)) - 48) 100000))), (3, .int (iI ((i : Int)))), (0, .ref mm), (1, .int (iI lo)), (2, .int (iI hi))]) hx hb d_Ref_ranged_76 hl (by decide) rfl (fun ls hl => ?_)
          refine lv_aload_n hx hb d_Ref_ranged_78 rfl (lv_at hl 2 rfl) ?_
          refine lv_dup hx hb d_Ref_ranged_79 rfl ?_
          refine g_get hx hb hk hown hK hP 0 rfl f_Ref_78 rfl d_Ref_ranged_80 ?_
          refine lv_iconst (v := iI 1) hx hb d_Ref_ranged_83 rfl ?_
          refine ri_iadd hx hb d_Ref_ranged_84 ?_
          refine ri_i (show ((j : Int)) + 1 = ((j + 1 : Nat) : Int) from by omega) ?_
          refine g_put hx hb hk hown hK hP hD hS 0 rfl f_Ref_78 fT_Ref rfl (rfl) rfl (Nat.le_of_ble_eq_true rfl) d_Ref_ranged_85 (fun H locs hP hD hS => ?_)
          have hP : va_P D vwCl [(mm, .inr (4, [.int (iI fa), .ref tA, .int (iI ((nn : Int))), .int (iI pl), .int (iI yr), .int (iI mn), .int (iI dy), .int (iI (((j + 1 : Nat) : Int))), .ref oA, .ref sA, .ref eA, .ref gA, .ref cA, .ref rA, .ref fA])), (tA, .inl (cB, 400, .inl f))] H := hP
          have hD : va_D (wA [(mm, .inr (4, [.int (iI fa), .ref tA, .int (iI ((nn : Int))), .int (iI pl), .int (iI yr), .int (iI mn), .int (iI dy), .int (iI ((i : Int))), .ref oA, .ref sA, .ref eA, .ref gA, .ref cA, .ref rA, .ref fA])), (tA, .inl (cB, 400, .inl f))]) [(mm, .inr (4, [.int (iI fa), .ref tA, .int (iI ((nn : Int))), .int (iI pl), .int (iI yr), .int (iI mn), .int (iI dy), .int (iI (((j + 1 : Nat) : Int))), .ref oA, .ref sA, .ref eA, .ref gA, .ref cA, .ref rA, .ref fA])), (tA, .inl (cB, 400, .inl f))] := hD
          refine lv_goto (tgt := 48) hx hb d_Ref_ranged_88 (by decide) ?_
          exact ih _ (by omega) (j + 1) (min (((10 * v) + (zPk nn f j)) - 48) 100000) ls _ _ gj (by omega) (by omega) (by rw [hv, zRun_go (f := f) (n := nn) (j := j) gj (by rw [← zPk_in (n := nn) (f := f) (i := j) gj]; exact ge), zPk_in (n := nn) (f := f) (i := j) gj, Int.mul_comm v 10]) rfl hP hD hS (lv_sub hl [0, 1, 2, 3, 4] rfl)
      exact loop48 _ i 0 ls _ _ (by omega) (by omega) (by omega) (by rw [zDg_r gd h32, zRun_go (f := f) (n := nn) (j := i) gl (by rw [← zPk_in (n := nn) (f := f) (i := i) gl]; exact gd), zPk_in (n := nn) (f := f) (i := i) gl, show min (0 * 10 + tv (f i) - 48) 100000 = tv (f i) - 48 from by have := tv_b (f i); omega]) rfl hP hD hS (lv_sub hl [0, 1, 2, 3, 4] rfl)
    · refine lv_aload_n hx hb d_Ref_ranged_35 rfl (lv_at hl 2 rfl) ?_
      refine lv_dup hx hb d_Ref_ranged_36 rfl ?_
      refine g_get hx hb hk hown hK hP 0 rfl f_Ref_78 rfl d_Ref_ranged_37 ?_
      refine lv_iconst (v := iI 1) hx hb d_Ref_ranged_40 rfl ?_
      refine ri_iadd hx hb d_Ref_ranged_41 ?_
      refine ri_i (show ((i : Int)) + 1 = ((i + 1 : Nat) : Int) from by omega) ?_
      refine g_put hx hb hk hown hK hP hD hS 0 rfl f_Ref_78 fT_Ref rfl (rfl) rfl (Nat.le_of_ble_eq_true rfl) d_Ref_ranged_42 (fun H locs hP hD hS => ?_)
      have hP : va_P D vwCl [(mm, .inr (4, [.int (iI fa), .ref tA, .int (iI ((nn : Int))), .int (iI pl), .int (iI yr), .int (iI mn), .int (iI dy), .int (iI (((i + 1 : Nat) : Int))), .ref oA, .ref sA, .ref eA, .ref gA, .ref cA, .ref rA, .ref fA])), (tA, .inl (cB, 400, .inl f))] H := hP
      have hD : va_D (wA [(mm, .inr (4, [.int (iI fa), .ref tA, .int (iI ((nn : Int))), .int (iI pl), .int (iI yr), .int (iI mn), .int (iI dy), .int (iI ((i : Int))), .ref oA, .ref sA, .ref eA, .ref gA, .ref cA, .ref rA, .ref fA])), (tA, .inl (cB, 400, .inl f))]) [(mm, .inr (4, [.int (iI fa), .ref tA, .int (iI ((nn : Int))), .int (iI pl), .int (iI yr), .int (iI mn), .int (iI dy), .int (iI (((i + 1 : Nat) : Int))), .ref oA, .ref sA, .ref eA, .ref gA, .ref cA, .ref rA, .ref fA])), (tA, .inl (cB, 400, .inl f))] := hD
      refine lv_goto (tgt := 91) hx hb d_Ref_ranged_45 (by decide) ?_
      have hR : zDg nn f i = (0, i + 1) := zDg_0 h32
      rw [hR] at gq
      simp only at gq
      refine lv_iload hx hb d_Ref_ranged_91 (lv_at hl 0 rfl) ?_
      refine lv_iload_n hx hb d_Ref_ranged_93 rfl (lv_at hl 3 rfl) ?_
      refine ri_icmp_lt (tgt := 103) hx hb d_Ref_ranged_94 (by decide) (fun h94 => ?_) (fun h94 => ?_)
      · exfalso; omega
      · refine lv_iload hx hb d_Ref_ranged_97 (lv_at hl 0 rfl) ?_
        refine lv_iload_n hx hb d_Ref_ranged_99 rfl (lv_at hl 4 rfl) ?_
        refine ri_icmp_le (tgt := 108) hx hb d_Ref_ranged_100 (by decide) (fun h100 => ?_) (fun h100 => ?_)
        · refine lv_iload hx hb d_Ref_ranged_108 (lv_at hl 0 rfl) ?_
          exact m_iret hx hb hr hlk hP hS d_Ref_ranged_110 (by rw [hR]) (by rw [hR])
        · exfalso; omega
  · exfalso; (rw [zDg_no (zDigB_f h12)] at gq; simp only at gq; omega)
abbrev rm_Ref_ranged_x : Room := { frames := 7, cells := 1, slots := 6, locals := 121 }
set_option maxHeartbeats 4000000 in
set_option maxRecDepth 100000 in
theorem ct_Ref_ranged_x (l : Launch) (D : va_G) (tys : List (ClassId × FieldType)) (aS : Nat) (hoff : l.stackTraces = false) (mm : Nat) (tA : Nat) (oA : Nat) (sA : Nat) (eA : Nat) (gA : Nat) (cA : Nat) (rA : Nat) (fA : Nat) (fa : Int) (nn : Nat) (pl : Int) (yr : Int) (mn : Int) (dy : Int) (i : Nat) (cB : ClassId) (f : Nat → Int32) (lo : Int) (hi : Int) (hty : tys[0]? = some (cB, .byte)) (gn : nn ≤ 400) (gi : i ≤ nn) (gl1 : 0 ≤ lo) (gl2 : lo ≤ 100000) (gh1 : 0 ≤ hi) (gh2 : hi ≤ 100000) (gq : (zDg nn f i).1 < lo ∨ hi < (zDg nn f i).1) : xMet l y_Ref_ranged c_Ref_ranged 5 (some .int) rm_Ref_ranged_x D tys aS [.ref mm, .int (iI lo), .int (iI hi)] [(mm, .inr (4, [.int (iI fa), .ref tA, .int (iI ((nn : Int))), .int (iI pl), .int (iI yr), .int (iI mn), .int (iI dy), .int (iI ((i : Int))), .ref oA, .ref sA, .ref eA, .ref gA, .ref cA, .ref rA, .ref fA])), (tA, .inl (cB, 400, .inl f))] none "java/lang/UnsupportedOperationException" [(mm, .inr (4, [.int (iI fa), .ref tA, .int (iI ((nn : Int))), .int (iI ((i : Int))), .int (iI yr), .int (iI mn), .int (iI dy), .int (iI ((((zDg nn f i).2 : Nat) : Int))), .ref oA, .ref sA, .ref eA, .ref gA, .ref cA, .ref rA, .ref fA])), (tA, .inl (cB, 400, .inl f))] := by
  refine xMet_of (by decide) (Nat.le_of_ble_eq_true rfl) ?_
  intro p e s m below meth c hx hb hr hown hlk hml hE hk hK hP hD hS hAS hZ ls hl
  have hl : lv_has ls 5 [(0, .ref mm), (1, .int (iI lo)), (2, .int (iI hi))] := hl
  have gP := zPk_b nn f i
  refine lv_aload_n hx hb d_Ref_ranged_0 rfl (lv_at hl 0 rfl) ?_
  refine g_get hx hb hk hown hK hP 0 rfl f_Ref_78 rfl d_Ref_ranged_1 ?_
  refine lv_istore_n (lv' := [(3, .int (iI ((i : Int)))), (0, .ref mm), (1, .int (iI lo)), (2, .int (iI hi))]) hx hb d_Ref_ranged_4 rfl hl (by decide) rfl (fun ls hl => ?_)
  refine lv_aload_n hx hb d_Ref_ranged_5 rfl (lv_at hl 1 rfl) ?_
  refine p_callV (rest := []) (q0 := 0) hx hb (hml.trans hl.1.symm) hown hk hK k_Ref_84 (ct_Ref_peek l D tys mm tA oA sA eA gA cA rA fA fa nn pl yr mn dy i cB f hty (by omega) (by omega)) (w_subP (is := [0, 1]) hP rfl) (w_subD (is := [0, 1]) hD rfl rfl) rfl rfl rfl rfl ⟨rfl, rfl⟩ ⟨by decide, by decide, by decide, by decide⟩ (Nat.le_of_ble_eq_true rfl) d_Ref_ranged_6 ?_
  refine p_callS (rest := []) hx hb (hml.trans hl.1.symm) hown hk hK k_Ref_92 (ct_Ref_digit l D tys (zPk nn f i) (by omega) (by omega)) nil_P nil_D rfl rfl ⟨rfl, rfl⟩ ⟨by decide, by decide, by decide, by decide⟩ (Nat.le_of_ble_eq_true rfl) d_Ref_ranged_9 ?_
  have gB := bI_b (zDigB (zPk nn f i))
  refine ri_if_ne (tgt := 23) hx hb d_Ref_ranged_12 (by decide) (fun h12 => ?_) (fun h12 => ?_)
  · have gd := zDigB_t h12
    have gl : i < nn := zPk_lt (f := f) (by omega)
    refine lv_iconst (v := iI 0) hx hb d_Ref_ranged_23 rfl ?_
    refine lv_istore (lv' := [(4, .int (iI 0)), (3, .int (iI ((i : Int)))), (0, .ref mm), (1, .int (iI lo)), (2, .int (iI hi))]) hx hb d_Ref_ranged_24 hl (by decide) rfl (fun ls hl => ?_)
    refine lv_aload_n hx hb d_Ref_ranged_26 rfl (lv_at hl 2 rfl) ?_
    refine p_callV (rest := []) (q0 := 0) hx hb (hml.trans hl.1.symm) hown hk hK k_Ref_84 (ct_Ref_peek l D tys mm tA oA sA eA gA cA rA fA fa nn pl yr mn dy i cB f hty (by omega) (by omega)) (w_subP (is := [0, 1]) hP rfl) (w_subD (is := [0, 1]) hD rfl rfl) rfl rfl rfl rfl ⟨rfl, rfl⟩ ⟨by decide, by decide, by decide, by decide⟩ (Nat.le_of_ble_eq_true rfl) d_Ref_ranged_27 ?_
    refine lv_bipush (v := iI 48) hx hb d_Ref_ranged_30 (by decide) ?_
    refine ri_icmp_ne (tgt := 48) hx hb d_Ref_ranged_32 (by decide) (fun h32 => ?_) (fun h32 => ?_)
    · have loop48 : ∀ (n : Nat) (j : Nat) (v : Int) (ls : Array Slot) (H : Heap) (locs : List Loc), (j ≤ nn) → (0 ≤ v) → (v ≤ 100000) → (zDg nn f i = zRun f (nn - j) j v) → nn - j = n → va_P D vwCl [(mm, .inr (4, [.int (iI fa), .ref tA, .int (iI ((nn : Int))), .int (iI pl), .int (iI yr), .int (iI mn), .int (iI dy), .int (iI ((j : Int))), .ref oA, .ref sA, .ref eA, .ref gA, .ref cA, .ref rA, .ref fA])), (tA, .inl (cB, 400, .inl f))] H → va_D (wA [(mm, .inr (4, [.int (iI fa), .ref tA, .int (iI ((nn : Int))), .int (iI pl), .int (iI yr), .int (iI mn), .int (iI dy), .int (iI ((i : Int))), .ref oA, .ref sA, .ref eA, .ref gA, .ref cA, .ref rA, .ref fA])), (tA, .inl (cB, 400, .inl f))]) [(mm, .inr (4, [.int (iI fa), .ref tA, .int (iI ((nn : Int))), .int (iI pl), .int (iI yr), .int (iI mn), .int (iI dy), .int (iI ((j : Int))), .ref oA, .ref sA, .ref eA, .ref gA, .ref cA, .ref rA, .ref fA])), (tA, .inl (cB, 400, .inl f))] → va_S (wA [(mm, .inr (4, [.int (iI fa), .ref tA, .int (iI ((nn : Int))), .int (iI pl), .int (iI yr), .int (iI mn), .int (iI dy), .int (iI ((i : Int))), .ref oA, .ref sA, .ref eA, .ref gA, .ref cA, .ref rA, .ref fA])), (tA, .inl (cB, 400, .inl f))]) s.heap H locs → lv_has ls 5 [(4, .int (iI v)), (3, .int (iI ((i : Int)))), (0, .ref mm), (1, .int (iI lo)), (2, .int (iI hi))] → W p l e rm_Ref_ranged_x s m ([.ref mm, .int (iI lo), .int (iI hi)] : List Value).toArray below meth c H locs 0 0 (xMQ below (xQ D [(mm, .inr (4, [.int (iI fa), .ref tA, .int (iI ((nn : Int))), .int (iI pl), .int (iI yr), .int (iI mn), .int (iI dy), .int (iI ((i : Int))), .ref oA, .ref sA, .ref eA, .ref gA, .ref cA, .ref rA, .ref fA])), (tA, .inl (cB, 400, .inl f))] none "java/lang/UnsupportedOperationException" [(mm, .inr (4, [.int (iI fa), .ref tA, .int (iI ((nn : Int))), .int (iI ((i : Int))), .int (iI yr), .int (iI mn), .int (iI dy), .int (iI ((((zDg nn f i).2 : Nat) : Int))), .ref oA, .ref sA, .ref eA, .ref gA, .ref cA, .ref rA, .ref fA])), (tA, .inl (cB, 400, .inl f))]) ([.ref mm, .int (iI lo), .int (iI hi)] : List Value).toArray s [(mm, .inr (4, [.int (iI fa), .ref tA, .int (iI ((nn : Int))), .int (iI pl), .int (iI yr), .int (iI mn), .int (iI dy), .int (iI ((i : Int))), .ref oA, .ref sA, .ref eA, .ref gA, .ref cA, .ref rA, .ref fA])), (tA, .inl (cB, 400, .inl f))]) (F0 m 48 ls []) := by
        intro n
        induction n using Nat.strongRecOn with
        | _ n ih =>
        intro j v ls H locs hj hv1 hv2 hv hn hP hD hS hl
        have gP2 := zPk_b nn f j
        refine lv_aload_n hx hb d_Ref_ranged_48 rfl (lv_at hl 2 rfl) ?_
        refine p_callV (rest := []) (q0 := 0) hx hb (hml.trans hl.1.symm) hown hk hK k_Ref_84 (ct_Ref_peek l D tys mm tA oA sA eA gA cA rA fA fa nn pl yr mn dy j cB f hty (by omega) (by omega)) (w_subP (is := [0, 1]) hP rfl) (w_subD (is := [0, 1]) hD rfl rfl) rfl rfl rfl rfl ⟨rfl, rfl⟩ ⟨by decide, by decide, by decide, by decide⟩ (Nat.le_of_ble_eq_true rfl) d_Ref_ranged_49 ?_
        refine p_callS (rest := []) hx hb (hml.trans hl.1.symm) hown hk hK k_Ref_92 (ct_Ref_digit l D tys (zPk nn f j) (by omega) (by omega)) nil_P nil_D rfl rfl ⟨rfl, rfl⟩ ⟨by decide, by decide, by decide, by decide⟩ (Nat.le_of_ble_eq_true rfl) d_Ref_ranged_52 ?_
        have gB := bI_b (zDigB (zPk nn f j))
        refine ri_if_eq (tgt := 91) hx hb d_Ref_ranged_55 (by decide) (fun h55 => ?_) (fun h55 => ?_)
        · have hR : zDg nn f i = (v, j) := by
            rw [hv]
            by_cases hjn : j < nn
            · exact zRun_at (f := f) (n := nn) (j := j) hjn (by rw [← zPk_in (n := nn) (f := f) (i := j) hjn]; exact zDigB_f h55)
            · exact zRun_end (f := f) (n := nn) (j := j) (by omega)
          rw [hR] at gq
          simp only at gq
          refine lv_iload hx hb d_Ref_ranged_91 (lv_at hl 0 rfl) ?_
          refine lv_iload_n hx hb d_Ref_ranged_93 rfl (lv_at hl 3 rfl) ?_
          refine ri_icmp_lt (tgt := 103) hx hb d_Ref_ranged_94 (by decide) (fun h94 => ?_) (fun h94 => ?_)
          · refine lv_aload_n hx hb d_Ref_ranged_103 rfl (lv_at hl 2 rfl) ?_
            refine lv_iload_n hx hb d_Ref_ranged_104 rfl (lv_at hl 1 rfl) ?_
            exact x_thr (x_runV (rest := []) (q0 := 0) hx hb (hml.trans hl.1.symm) hown hk hK k_Ref_88 (ct_Ref_bad l D tys aS hoff mm tA oA sA eA gA cA rA fA fa nn pl yr mn dy j ((i : Int)) ) (w_subP (is := [0]) hP rfl) (x_subD (is := [0]) hD hAS rfl rfl) (x_zH hZ hS hAS) rfl rfl rfl rfl ⟨by decide, by decide, by decide, by decide⟩ (Nat.le_of_ble_eq_true rfl) d_Ref_ranged_105) hE hlk hP hD hS [0] rfl rfl (by rw [hR]; rfl) rfl
          · refine lv_iload hx hb d_Ref_ranged_97 (lv_at hl 0 rfl) ?_
            refine lv_iload_n hx hb d_Ref_ranged_99 rfl (lv_at hl 4 rfl) ?_
            refine ri_icmp_le (tgt := 108) hx hb d_Ref_ranged_100 (by decide) (fun h100 => ?_) (fun h100 => ?_)
            · exfalso; omega
            · refine lv_aload_n hx hb d_Ref_ranged_103 rfl (lv_at hl 2 rfl) ?_
              refine lv_iload_n hx hb d_Ref_ranged_104 rfl (lv_at hl 1 rfl) ?_
              exact x_thr (x_runV (rest := []) (q0 := 0) hx hb (hml.trans hl.1.symm) hown hk hK k_Ref_88 (ct_Ref_bad l D tys aS hoff mm tA oA sA eA gA cA rA fA fa nn pl yr mn dy j ((i : Int)) ) (w_subP (is := [0]) hP rfl) (x_subD (is := [0]) hD hAS rfl rfl) (x_zH hZ hS hAS) rfl rfl rfl rfl ⟨by decide, by decide, by decide, by decide⟩ (Nat.le_of_ble_eq_true rfl) d_Ref_ranged_105) hE hlk hP hD hS [0] rfl rfl (by rw [hR]; rfl) rfl
        · have ge := zDigB_t h55
          have gj : j < nn := zPk_lt (f := f) (by omega)
          refine lv_bipush (v := iI 10) hx hb d_Ref_ranged_58 (by decide) ?_
          refine lv_iload hx hb d_Ref_ranged_60 (lv_at hl 0 rfl) ?_
          refine ri_imul hx hb d_Ref_ranged_62 ?_
          refine lv_aload_n hx hb d_Ref_ranged_63 rfl (lv_at hl 2 rfl) ?_
          refine p_callV (rest := [.int (iI (10 * v))]) (q0 := 0) hx hb (hml.trans hl.1.symm) hown hk hK k_Ref_84 (ct_Ref_peek l D tys mm tA oA sA eA gA cA rA fA fa nn pl yr mn dy j cB f hty (by omega) (by omega)) (w_subP (is := [0, 1]) hP rfl) (w_subD (is := [0, 1]) hD rfl rfl) rfl rfl rfl rfl ⟨rfl, rfl⟩ ⟨by decide, by decide, by decide, by decide⟩ (Nat.le_of_ble_eq_true rfl) d_Ref_ranged_64 ?_
          refine ri_iadd hx hb d_Ref_ranged_67 ?_
          refine lv_bipush (v := iI 48) hx hb d_Ref_ranged_68 (by decide) ?_
          refine ri_isub hx hb d_Ref_ranged_70 ?_
          refine lv_ldc (v := iI 100000) hx hb hown (hk _ kc_Ref_95 _) d_Ref_ranged_71 ?_
          refine p_callS (rest := []) hx hb (hml.trans hl.1.symm) hown hk hK k_Ref_96 (ct_Math_minI l D tys (((10 * v) + (zPk nn f j)) - 48) 100000 (by omega) (by omega) (by omega) (by omega)) nil_P nil_D rfl rfl ⟨rfl, rfl⟩ ⟨by decide, by decide, by decide, by decide⟩ (Nat.le_of_ble_eq_true rfl) d_Ref_ranged_73 ?_
          refine lv_istore (lv' := [(4, .int (iI (min (((10 * v) + (zPk nn f j)) - 48) 100000))), (3, .int (iI ((i : Int)))), (0, .ref mm), (1, .int (iI lo)), (2, .int (iI hi))]) hx hb d_Ref_ranged_76 hl (by decide) rfl (fun ls hl => ?_)
          refine lv_aload_n hx hb d_Ref_ranged_78 rfl (lv_at hl 2 rfl) ?_
          refine lv_dup hx hb d_Ref_ranged_79 rfl ?_
          refine g_get hx hb hk hown hK hP 0 rfl f_Ref_78 rfl d_Ref_ranged_80 ?_
          refine lv_iconst (v := iI 1) hx hb d_Ref_ranged_83 rfl ?_
          refine ri_iadd hx hb d_Ref_ranged_84 ?_
          refine ri_i (show ((j : Int)) + 1 = ((j + 1 : Nat) : Int) from by omega) ?_
          refine g_put hx hb hk hown hK hP hD hS 0 rfl f_Ref_78 fT_Ref rfl (rfl) rfl (Nat.le_of_ble_eq_true rfl) d_Ref_ranged_85 (fun H locs hP hD hS => ?_)
          have hP : va_P D vwCl [(mm, .inr (4, [.int (iI fa), .ref tA, .int (iI ((nn : Int))), .int (iI pl), .int (iI yr), .int (iI mn), .int (iI dy), .int (iI (((j + 1 : Nat) : Int))), .ref oA, .ref sA, .ref eA, .ref gA, .ref cA, .ref rA, .ref fA])), (tA, .inl (cB, 400, .inl f))] H := hP
          have hD : va_D (wA [(mm, .inr (4, [.int (iI fa), .ref tA, .int (iI ((nn : Int))), .int (iI pl), .int (iI yr), .int (iI mn), .int (iI dy), .int (iI ((i : Int))), .ref oA, .ref sA, .ref eA, .ref gA, .ref cA, .ref rA, .ref fA])), (tA, .inl (cB, 400, .inl f))]) [(mm, .inr (4, [.int (iI fa), .ref tA, .int (iI ((nn : Int))), .int (iI pl), .int (iI yr), .int (iI mn), .int (iI dy), .int (iI (((j + 1 : Nat) : Int))), .ref oA, .ref sA, .ref eA, .ref gA, .ref cA, .ref rA, .ref fA])), (tA, .inl (cB, 400, .inl f))] := hD
          refine lv_goto (tgt := 48) hx hb d_Ref_ranged_88 (by decide) ?_
          exact ih _ (by omega) (j + 1) (min (((10 * v) + (zPk nn f j)) - 48) 100000) ls _ _ gj (by omega) (by omega) (by rw [hv, zRun_go (f := f) (n := nn) (j := j) gj (by rw [← zPk_in (n := nn) (f := f) (i := j) gj]; exact ge), zPk_in (n := nn) (f := f) (i := j) gj, Int.mul_comm v 10]) rfl hP hD hS (lv_sub hl [0, 1, 2, 3, 4] rfl)
      exact loop48 _ i 0 ls _ _ (by omega) (by omega) (by omega) (by rw [zDg_r gd h32, zRun_go (f := f) (n := nn) (j := i) gl (by rw [← zPk_in (n := nn) (f := f) (i := i) gl]; exact gd), zPk_in (n := nn) (f := f) (i := i) gl, show min (0 * 10 + tv (f i) - 48) 100000 = tv (f i) - 48 from by have := tv_b (f i); omega]) rfl hP hD hS (lv_sub hl [0, 1, 2, 3, 4] rfl)
    · refine lv_aload_n hx hb d_Ref_ranged_35 rfl (lv_at hl 2 rfl) ?_
      refine lv_dup hx hb d_Ref_ranged_36 rfl ?_
      refine g_get hx hb hk hown hK hP 0 rfl f_Ref_78 rfl d_Ref_ranged_37 ?_
      refine lv_iconst (v := iI 1) hx hb d_Ref_ranged_40 rfl ?_
      refine ri_iadd hx hb d_Ref_ranged_41 ?_
      refine ri_i (show ((i : Int)) + 1 = ((i + 1 : Nat) : Int) from by omega) ?_
      refine g_put hx hb hk hown hK hP hD hS 0 rfl f_Ref_78 fT_Ref rfl (rfl) rfl (Nat.le_of_ble_eq_true rfl) d_Ref_ranged_42 (fun H locs hP hD hS => ?_)
      have hP : va_P D vwCl [(mm, .inr (4, [.int (iI fa), .ref tA, .int (iI ((nn : Int))), .int (iI pl), .int (iI yr), .int (iI mn), .int (iI dy), .int (iI (((i + 1 : Nat) : Int))), .ref oA, .ref sA, .ref eA, .ref gA, .ref cA, .ref rA, .ref fA])), (tA, .inl (cB, 400, .inl f))] H := hP
      have hD : va_D (wA [(mm, .inr (4, [.int (iI fa), .ref tA, .int (iI ((nn : Int))), .int (iI pl), .int (iI yr), .int (iI mn), .int (iI dy), .int (iI ((i : Int))), .ref oA, .ref sA, .ref eA, .ref gA, .ref cA, .ref rA, .ref fA])), (tA, .inl (cB, 400, .inl f))]) [(mm, .inr (4, [.int (iI fa), .ref tA, .int (iI ((nn : Int))), .int (iI pl), .int (iI yr), .int (iI mn), .int (iI dy), .int (iI (((i + 1 : Nat) : Int))), .ref oA, .ref sA, .ref eA, .ref gA, .ref cA, .ref rA, .ref fA])), (tA, .inl (cB, 400, .inl f))] := hD
      refine lv_goto (tgt := 91) hx hb d_Ref_ranged_45 (by decide) ?_
      have hR : zDg nn f i = (0, i + 1) := zDg_0 h32
      rw [hR] at gq
      simp only at gq
      refine lv_iload hx hb d_Ref_ranged_91 (lv_at hl 0 rfl) ?_
      refine lv_iload_n hx hb d_Ref_ranged_93 rfl (lv_at hl 3 rfl) ?_
      refine ri_icmp_lt (tgt := 103) hx hb d_Ref_ranged_94 (by decide) (fun h94 => ?_) (fun h94 => ?_)
      · refine lv_aload_n hx hb d_Ref_ranged_103 rfl (lv_at hl 2 rfl) ?_
        refine lv_iload_n hx hb d_Ref_ranged_104 rfl (lv_at hl 1 rfl) ?_
        exact x_thr (x_runV (rest := []) (q0 := 0) hx hb (hml.trans hl.1.symm) hown hk hK k_Ref_88 (ct_Ref_bad l D tys aS hoff mm tA oA sA eA gA cA rA fA fa nn pl yr mn dy (i + 1) ((i : Int)) ) (w_subP (is := [0]) hP rfl) (x_subD (is := [0]) hD hAS rfl rfl) (x_zH hZ hS hAS) rfl rfl rfl rfl ⟨by decide, by decide, by decide, by decide⟩ (Nat.le_of_ble_eq_true rfl) d_Ref_ranged_105) hE hlk hP hD hS [0] rfl rfl (by rw [hR]; rfl) rfl
      · refine lv_iload hx hb d_Ref_ranged_97 (lv_at hl 0 rfl) ?_
        refine lv_iload_n hx hb d_Ref_ranged_99 rfl (lv_at hl 4 rfl) ?_
        refine ri_icmp_le (tgt := 108) hx hb d_Ref_ranged_100 (by decide) (fun h100 => ?_) (fun h100 => ?_)
        · exfalso; omega
        · refine lv_aload_n hx hb d_Ref_ranged_103 rfl (lv_at hl 2 rfl) ?_
          refine lv_iload_n hx hb d_Ref_ranged_104 rfl (lv_at hl 1 rfl) ?_
          exact x_thr (x_runV (rest := []) (q0 := 0) hx hb (hml.trans hl.1.symm) hown hk hK k_Ref_88 (ct_Ref_bad l D tys aS hoff mm tA oA sA eA gA cA rA fA fa nn pl yr mn dy (i + 1) ((i : Int)) ) (w_subP (is := [0]) hP rfl) (x_subD (is := [0]) hD hAS rfl rfl) (x_zH hZ hS hAS) rfl rfl rfl rfl ⟨by decide, by decide, by decide, by decide⟩ (Nat.le_of_ble_eq_true rfl) d_Ref_ranged_105) hE hlk hP hD hS [0] rfl rfl (by rw [hR]; rfl) rfl
  · refine lv_aload_n hx hb d_Ref_ranged_15 rfl (lv_at hl 1 rfl) ?_
    refine lv_aload_n hx hb d_Ref_ranged_16 rfl (lv_at hl 1 rfl) ?_
    refine g_get hx hb hk hown hK hP 0 rfl f_Ref_78 rfl d_Ref_ranged_17 ?_
    exact x_thr (x_runV (rest := []) (q0 := 0) hx hb (hml.trans hl.1.symm) hown hk hK k_Ref_88 (ct_Ref_bad l D tys aS hoff mm tA oA sA eA gA cA rA fA fa nn pl yr mn dy i ((i : Int)) ) (w_subP (is := [0]) hP rfl) (x_subD (is := [0]) hD hAS rfl rfl) (x_zH hZ hS hAS) rfl rfl rfl rfl ⟨by decide, by decide, by decide, by decide⟩ (Nat.le_of_ble_eq_true rfl) d_Ref_ranged_20) hE hlk hP hD hS [0] rfl rfl (by rw [zDg_no (zDigB_f h12)]; rfl) rfl
end
section
/-! What the reference's searches and answers are: mathematics alone. -/
def rMin (off sv : Int) (ev : Nat) (G : Nat → Bool) : Int := off + (if (decide (0 < ev) && G (ev - 1)) then sv else 0)
theorem rMin_bd {off sv : Int} {ev : Nat} {G : Nat → Bool} (h1 : -840 ≤ off) (h2 : off ≤ 840) (h3 : 0 ≤ sv) (h4 : sv ≤ 120) : -840 ≤ rMin off sv ev G ∧ rMin off sv ev G ≤ 960 := by
  unfold rMin; split <;> omega
def zOutB (z t : Int) : Bool := decide (z < 0 ∨ 7 < z ∨ t < 0 ∨ 10413791999999 < t)
/-- the halves of a search -/
theorem srch_lo {E : Nat → Int} {G : Nat → Bool} {cnt a md : Nat} {t : Int} (hs : evS cnt E G) (hm : md < cnt) (he : E md ≤ t) : ∀ k, k < md + 1 → E k ≤ t := by
  intro k hk
  by_cases e : k = md
  · rw [e]; exact he
  · rcases hs k md (by omega) hm with h | ⟨h, -⟩ <;> omega
theorem srch_hi {E : Nat → Int} {G : Nat → Bool} {cnt md : Nat} {t : Int} (hs : evS cnt E G) (he : t < E md) : ∀ k, md ≤ k → k < cnt → t < E k := by
  intro k hk hc
  by_cases e : md = k
  · rw [← e]; exact he
  · rcases hs md k (by omega) hc with h | ⟨h, -⟩ <;> omega
def rA (off sv t : Int) : Int := t - 60000 * (off + sv)
def rB (off t : Int) : Int := t - 60000 * off
def rP1 (off sv : Int) (cnt : Nat) (E : Nat → Int) (G : Nat → Bool) (t : Int) : Bool := decide (rA off sv t + 60000 * rMin off sv (evK E (rA off sv t) cnt) G = t)
def rP2 (off sv : Int) (cnt : Nat) (E : Nat → Int) (G : Nat → Bool) (t : Int) : Bool := decide (rB off t ≠ rA off sv t) && decide (rB off t + 60000 * rMin off sv (evK E (rB off t) cnt) G = t)
def rFnd (p1 p2 : Bool) (a b : Int) (F : Nat → Int64) : Nat → Int64 :=
  let g := if p1 then vp_updL F 0 (lL a) else F
  if p2 then vp_updL g (if p1 then 1 else 0) (lL b) else g
/-- what the reference's field tells -/
def rX (t mi : Int) : Int := t / 1000 + 60 * mi
def rFld (off sv : Int) (cnt : Nat) (E : Nat → Int) (G : Nat → Bool) (t w : Int) : Int :=
  let ev := evK E t cnt
  let x := rX t (rMin off sv ev G)
  let d := x / 86400
  let s := x % 86400
  if w = 0 then s % 60 else if w = 1 then s / 60 % 60 else if w = 2 then s / 3600
  else if w = 3 then d - cFD (cY d) (cMo (cY d) d) + 1 else if w = 4 then cMo (cY d) d else if w = 5 then cY d
  else if w = 6 then cWd d + 1 else if w = 7 then rMin off sv ev G else bI (decide (0 < ev) && G (ev - 1))
section RR
variable {off sv t w : Int} {b e : RU} {cnt : Nat} {E : Nat → Int} {G : Nat → Bool}
theorem zRel_sv (h : zRel off sv b e cnt E G) : 0 ≤ sv ∧ sv ≤ 120 ∧ -840 ≤ off ∧ off ≤ 840 := by
  obtain ⟨h1, h2, ⟨rfl, -⟩ | ⟨h3, h4, -⟩⟩ := h <;> omega
theorem rMin_is (h : zRel off sv b e cnt E G) (ht1 : -60000000 ≤ t) (ht2 : t ≤ 10413900000000) : rMin off sv (evK E t cnt) G = cMin off sv b e t := by
  have hs := rel_sum h ht1 ht2
  unfold rMin cMin
  rw [hs]
  unfold eSum
  split <;> omega
theorem rel_local (h : zRel off sv b e cnt E G) (ht1 : 0 ≤ t) (ht2 : t ≤ 10413791999999) : t + cMin off sv b e t * 60000 = t + 60000 * rMin off sv (evK E t cnt) G := by
  rw [rMin_is h (by omega) (by omega)]; omega
theorem rP1_is (h : zRel off sv b e cnt E G) (ht1 : 0 ≤ t) (ht2 : t ≤ 10413791999999) : (0 < sv → bI (rP1 off sv cnt E G t) = aIn off sv b e t) ∧ (sv = 0 → rP1 off sv cnt E G t = true) := by
  obtain ⟨k1, k2, k3, k4⟩ := zRel_sv h
  have ha : -60000000 ≤ rA off sv t ∧ rA off sv t ≤ 10413900000000 := by unfold rA; omega
  unfold rP1 aIn
  rw [rMin_is h ha.1 ha.2, show t - (off + sv) * 60000 = rA off sv t from by unfold rA; omega]
  unfold cMin
  constructor
  · intro hsv
    congr 1
    cases hc : cSum off sv b e (rA off sv t) with
    | true => simp [rA]
    | false => simp [rA]; omega
  · intro hsv
    subst hsv
    simp [rA]
theorem rP2_is (h : zRel off sv b e cnt E G) (ht1 : 0 ≤ t) (ht2 : t ≤ 10413791999999) : (0 < sv → bI (rP2 off sv cnt E G t) = aOut off sv b e t) ∧ (sv = 0 → rP2 off sv cnt E G t = false) := by
  obtain ⟨k1, k2, k3, k4⟩ := zRel_sv h
  have ha : -60000000 ≤ rB off t ∧ rB off t ≤ 10413900000000 := by unfold rB; omega
  unfold rP2 aOut
  rw [rMin_is h ha.1 ha.2, show t - off * 60000 = rB off t from by unfold rB; omega]
  unfold cMin
  constructor
  · intro hsv
    congr 1
    rw [decide_eq_true (show rB off t ≠ rA off sv t by unfold rA rB; omega), Bool.true_and]
    cases hc : cSum off sv b e (rB off t) with
    | true => simp [rB]; omega
    | false => simp [rB]
  · intro hsv
    subst hsv
    rw [decide_eq_false (show ¬ rB off t ≠ rA off 0 t by unfold rA rB; omega), Bool.false_and]
theorem aIn_0 (hsv : sv = 0) : aIn off sv b e t = 0 ∧ aOut off sv b e t = 1 := by
  subst hsv
  simp [aIn, aOut, cSum, bI]
theorem rel_many (h : zRel off sv b e cnt E G) (ht1 : 0 ≤ t) (ht2 : t ≤ 10413791999999) : aIn off sv b e t + aOut off sv b e t = bI (rP1 off sv cnt E G t) + bI (rP2 off sv cnt E G t) := by
  obtain ⟨k1, k2, k3, k4⟩ := zRel_sv h
  by_cases hsv : sv = 0
  · rw [(aIn_0 hsv).1, (aIn_0 hsv).2, (rP1_is h ht1 ht2).2 hsv, (rP2_is h ht1 ht2).2 hsv]; rfl
  · rw [(rP1_is h ht1 ht2).1 (by omega), (rP2_is h ht1 ht2).1 (by omega)]
/-- what the reference's universal tells, where something reads so -/
def rUni (p1 p2 : Bool) (a b : Int) (lt : Bool) : Int := if p1 = true ∧ ¬ (lt = true ∧ p2 = true) then a else b
theorem rel_uni (h : zRel off sv b e cnt E G) (ht1 : 0 ≤ t) (ht2 : t ≤ 10413791999999) (lt : Bool) : aUni off sv b e t lt = rUni (rP1 off sv cnt E G t) (rP2 off sv cnt E G t) (rA off sv t) (rB off t) lt := by
  obtain ⟨k1, k2, k3, k4⟩ := zRel_sv h
  unfold aUni rUni
  by_cases hsv : sv = 0
  · rw [(aIn_0 hsv).1, (rP1_is h ht1 ht2).2 hsv, (rP2_is h ht1 ht2).2 hsv, if_neg (by omega), if_pos (by simp)]
    unfold rA; omega
  · have e1 := (rP1_is h ht1 ht2).1 (by omega)
    have e2 := (rP2_is h ht1 ht2).1 (by omega)
    rw [← e1, ← e2]
    cases rP1 off sv cnt E G t <;> cases rP2 off sv cnt E G t <;> cases lt <;> simp [bI, rA, rB] <;> omega
theorem rel_chg (h : zRel off sv b e cnt E G) (ht1 : 0 ≤ t) (ht2 : t ≤ 10413791999999) (bk : Bool) : aChg off sv b e t bk = if bI bk = 0 then (if evK E t cnt = cnt then -1 else E (evK E t cnt)) else (if evK E t cnt = 0 ∨ E (evK E t cnt - 1) < 0 then -1 else E (evK E t cnt - 1)) := by
  unfold aChg
  by_cases hb : bI bk = 0
  · rw [if_pos hb, if_pos hb, rel_fwd h ht1 (by omega)]
  · rw [if_neg hb, if_neg hb, rel_back h ht1 (by omega)]
theorem rel_fld (h : zRel off sv b e cnt E G) (ht1 : 0 ≤ t) (ht2 : t ≤ 10413791999999) (hw1 : 0 ≤ w) (hw2 : w ≤ 8) : aFld off sv b e t w = rFld off sv cnt E G t w := by
  obtain ⟨k1, k2, k3, k4⟩ := zRel_sv h
  have hm := rMin_is h (t := t) (by omega) (by omega)
  have hs := rel_sum h (t := t) (by omega) (by omega)
  have hb := cMin_bd (b := b) (e := e) (t := t) k3 k4 k1 k2
  unfold aFld rFld
  simp only [hm]
  unfold eSum at hs
  rw [← hs]
  have hd : (t + cMin off sv b e t * 60000) / 86400000 = rX t (cMin off sv b e t) / 86400 := by unfold rX; omega
  unfold cPart
  rw [hd]
  obtain rfl | rfl | rfl | rfl | rfl | rfl | rfl | rfl | rfl : w = 0 ∨ w = 1 ∨ w = 2 ∨ w = 3 ∨ w = 4 ∨ w = 5 ∨ w = 6 ∨ w = 7 ∨ w = 8 := by omega
  · simp; unfold rX; omega
  · simp; unfold rX; omega
  · simp; unfold rX; omega
  · simp
  · simp
  · simp
  · simp
  · simp
  · simp
end RR
end
section
/-! Contracts: the reference's reading calls. By program (wip/whole/m_ref2.py). -/
abbrev rm_Ref_passed : Room := { frames := 0, cells := 0, slots := 0, locals := 0 }
set_option maxHeartbeats 4000000 in
set_option maxRecDepth 100000 in
theorem ct_Ref_passed (l : Launch) (D : va_G) (tys : List (ClassId × FieldType)) (mm : Nat) (tA : Nat) (oA : Nat) (sA : Nat) (eA : Nat) (gA : Nat) (cA : Nat) (rA : Nat) (fA : Nat) (fa : Int) (nn : Nat) (pl : Int) (yr : Int) (mn : Int) (dy : Int) (i : Nat) (cI : ClassId) (cJ : ClassId) (cG : ClassId) (cJJ : ClassId) (cGG : ClassId) (oI : Nat → Int) (sI : Nat → Int) (cN : Nat → Nat) (eR : Nat → Nat) (gR : Nat → Nat) (zi : Nat) (eF : Nat → Int) (gF : Nat → Bool) (t : Int) (hI : tys[1]? = some (cI, .int)) (hJ : tys[2]? = some (cJ, .long)) (hG : tys[3]? = some (cG, .boolean)) (hJJ : tys[5]? = some (cJJ, .array .long)) (hGG : tys[6]? = some (cGG, .array .boolean)) (gz : zi < 8) (gc : cN zi ≤ 660) (gE : ∀ k, k < 660 → -1000000000000000 ≤ eF k ∧ eF k ≤ 1000000000000000) (hs : evS (cN zi) eF gF) (gi1 : -100000000000000 ≤ t) (gi2 : t ≤ 100000000000000) : pMet l y_Ref_passed c_Ref_passed 7 (some .int) rm_Ref_passed D tys [.ref mm, .int (iI ((zi : Int))), .long (lL t)] [(mm, .inr (4, [.int (iI fa), .ref tA, .int (iI ((nn : Int))), .int (iI pl), .int (iI yr), .int (iI mn), .int (iI dy), .int (iI ((i : Int))), .ref oA, .ref sA, .ref eA, .ref gA, .ref cA, .ref rA, .ref fA])), (oA, .inl (cI, 8, .inl (fun j => iI (oI j)))), (sA, .inl (cI, 8, .inl (fun j => iI (sI j)))), (eA, .inl (cJJ, 8, .inr (.inr (.inr (.inr (fun k => some (eR k))))))), (gA, .inl (cGG, 8, .inr (.inr (.inr (.inr (fun k => some (gR k))))))), (cA, .inl (cI, 8, .inl (fun j => iI (cN j : Int)))), (eR zi, .inl (cJ, 660, .inr (.inl (fun j => lL (eF j))))), (gR zi, .inl (cG, 660, .inl (fun j => iI (bI (gF j)))))] (.int (iI (((evK eF t (cN zi) : Nat) : Int)))) := by
  refine pMet_of (by decide) (Nat.le_of_ble_eq_true rfl) ?_
  intro p e s m below meth c hx hb hr hown hlk hml hk hK hP hD ls hl
  have hl : lv_has ls 7 [(0, .ref mm), (1, .int (iI ((zi : Int)))), (2, .long (lL t))] := hl
  refine lv_iconst (v := iI 0) hx hb d_Ref_passed_0 rfl ?_
  refine ri_i (show 0 = (0 : Int) from rfl) ?_
  refine lv_istore (lv' := [(4, .int (iI ((0 : Int)))), (0, .ref mm), (1, .int (iI ((zi : Int)))), (2, .long (lL t))]) hx hb d_Ref_passed_1 hl (by decide) rfl (fun ls hl => ?_)
  refine lv_aload_n hx hb d_Ref_passed_3 rfl (lv_at hl 1 rfl) ?_
  refine g_get hx hb hk hown hK hP 0 rfl f_Ref_34 rfl d_Ref_passed_4 ?_
  refine lv_iload_n hx hb d_Ref_passed_7 rfl (lv_at hl 2 rfl) ?_
  refine g_iald (i := zi) hx hb hK hP 5 1 rfl hI d_Ref_passed_8 ?_
  refine lv_istore (lv' := [(5, .int (iI (((cN zi : Nat) : Int)))), (4, .int (iI ((0 : Int)))), (0, .ref mm), (1, .int (iI ((zi : Int)))), (2, .long (lL t))]) hx hb d_Ref_passed_9 hl (by decide) rfl (fun ls hl => ?_)
  have loop11 : ∀ (n : Nat) (a : Nat) (b : Nat) (ls : Array Slot), (a ≤ b) → (b ≤ cN zi) → (∀ k, k < a → eF k ≤ t) → (∀ k, b ≤ k → k < cN zi → t < eF k) → b - a = n → lv_has ls 7 [(4, .int (iI ((a : Int)))), (5, .int (iI ((b : Int)))), (0, .ref mm), (1, .int (iI ((zi : Int)))), (2, .long (lL t))] → W p l e rm_Ref_passed s m ([.ref mm, .int (iI ((zi : Int))), .long (lL t)] : List Value).toArray below meth c s.heap [] 0 0 (MQ below (pQ (.int (iI (((evK eF t (cN zi) : Nat) : Int))))) ([.ref mm, .int (iI ((zi : Int))), .long (lL t)] : List Value).toArray s 0 0 (fun _ => False)) (F0 m 11 ls []) := by
    intro n
    induction n using Nat.strongRecOn with
    | _ n ih =>
    intro a b ls hab hbc hlo hhi hn hl
    refine lv_iload hx hb d_Ref_passed_11 (lv_at hl 0 rfl) ?_
    refine lv_iload hx hb d_Ref_passed_13 (lv_at hl 1 rfl) ?_
    refine ri_icmp_ge (tgt := 57) hx hb d_Ref_passed_15 (by decide) (fun h15 => ?_) (fun h15 => ?_)
    · refine lv_iload hx hb d_Ref_passed_57 (lv_at hl 0 rfl) ?_
      exact p_iret hx hb hr hlk d_Ref_passed_59 (by rw [evK_of (k := a) (by omega) hlo (fun k h1 h2 => hhi k (by omega) h2)])
    · refine lv_iload hx hb d_Ref_passed_18 (lv_at hl 0 rfl) ?_
      refine lv_iload hx hb d_Ref_passed_20 (lv_at hl 1 rfl) ?_
      refine ri_iadd hx hb d_Ref_passed_22 ?_
      refine lv_iconst (v := iI 2) hx hb d_Ref_passed_23 rfl ?_
      refine ri_idiv hx hb d_Ref_passed_24 ?_
      refine ri_i (show (((a : Int)) + ((b : Int))) / 2 = (((a + b) / 2 : Nat) : Int) from by omega) ?_
      refine lv_istore (lv' := [(6, .int (iI ((((a + b) / 2 : Nat) : Int)))), (4, .int (iI ((a : Int)))), (5, .int (iI ((b : Int)))), (0, .ref mm), (1, .int (iI ((zi : Int)))), (2, .long (lL t))]) hx hb d_Ref_passed_25 hl (by decide) rfl (fun ls hl => ?_)
      refine lv_aload_n hx hb d_Ref_passed_27 rfl (lv_at hl 3 rfl) ?_
      refine g_get hx hb hk hown hK hP 0 rfl f_Ref_26 rfl d_Ref_passed_28 ?_
      refine lv_iload_n hx hb d_Ref_passed_31 rfl (lv_at hl 4 rfl) ?_
      refine g_aald (i := zi) hx hb hK hP 3 5 rfl hJJ rfl (rfl) d_Ref_passed_32 ?_
      refine lv_iload hx hb d_Ref_passed_33 (lv_at hl 0 rfl) ?_
      refine g_lald (i := (a + b) / 2) hx hb hK hP 6 2 rfl hJ d_Ref_passed_35 ?_ (by omega) (by decide)
      have gm := gE ((a + b) / 2) (by omega)
      refine lv_lload_n hx hb d_Ref_passed_36 rfl (lv_at hl 5 rfl) ?_
      refine ri_lcmp_gt (tgt := 50) hx hb d_Ref_passed_37 d_Ref_passed_38 (by decide) (fun h37 => ?_) (fun h37 => ?_)
      · refine lv_iload hx hb d_Ref_passed_50 (lv_at hl 0 rfl) ?_
        refine lv_istore (lv' := [(5, .int (iI ((((a + b) / 2 : Nat) : Int)))), (6, .int (iI ((((a + b) / 2 : Nat) : Int)))), (4, .int (iI ((a : Int)))), (0, .ref mm), (1, .int (iI ((zi : Int)))), (2, .long (lL t))]) hx hb d_Ref_passed_52 hl (by decide) rfl (fun ls hl => ?_)
        refine lv_goto (tgt := 11) hx hb d_Ref_passed_54 (by decide) ?_
        exact ih _ (by omega) a ((a + b) / 2) ls (by omega) (by omega) (by first | exact hlo | exact srch_lo (a := a) hs (by omega) h37) (by first | exact hhi | exact srch_hi hs h37) rfl (lv_sub hl [2, 0, 3, 4, 5] rfl)
      · refine lv_iload hx hb d_Ref_passed_41 (lv_at hl 0 rfl) ?_
        refine lv_iconst (v := iI 1) hx hb d_Ref_passed_43 rfl ?_
        refine ri_iadd hx hb d_Ref_passed_44 ?_
        refine ri_i (show ((((a + b) / 2 : Nat) : Int)) + 1 = (((a + b) / 2 + 1 : Nat) : Int) from by omega) ?_
        refine lv_istore (lv' := [(4, .int (iI ((((a + b) / 2 + 1 : Nat) : Int)))), (6, .int (iI ((((a + b) / 2 : Nat) : Int)))), (5, .int (iI ((b : Int)))), (0, .ref mm), (1, .int (iI ((zi : Int)))), (2, .long (lL t))]) hx hb d_Ref_passed_45 hl (by decide) rfl (fun ls hl => ?_)
        refine lv_goto (tgt := 54) hx hb d_Ref_passed_47 (by decide) ?_
        refine lv_goto (tgt := 11) hx hb d_Ref_passed_54 (by decide) ?_
        exact ih _ (by omega) ((a + b) / 2 + 1) b ls (by omega) (by omega) (by first | exact hlo | exact srch_lo (a := a) hs (by omega) h37) (by first | exact hhi | exact srch_hi hs h37) rfl (lv_sub hl [0, 2, 3, 4, 5] rfl)
  exact loop11 _ 0 (cN zi) ls (by omega) (by omega) (fun k hk => by omega) (fun k h1 h2 => by omega) rfl (lv_sub hl [1, 0, 2, 3, 4] rfl)
abbrev rm_Ref_minutes : Room := { frames := 0, cells := 0, slots := 0, locals := 0 }
set_option maxHeartbeats 4000000 in
set_option maxRecDepth 100000 in
theorem ct_Ref_minutes (l : Launch) (D : va_G) (tys : List (ClassId × FieldType)) (mm : Nat) (tA : Nat) (oA : Nat) (sA : Nat) (eA : Nat) (gA : Nat) (cA : Nat) (rA : Nat) (fA : Nat) (fa : Int) (nn : Nat) (pl : Int) (yr : Int) (mn : Int) (dy : Int) (i : Nat) (cI : ClassId) (cJ : ClassId) (cG : ClassId) (cJJ : ClassId) (cGG : ClassId) (oI : Nat → Int) (sI : Nat → Int) (cN : Nat → Nat) (eR : Nat → Nat) (gR : Nat → Nat) (zi : Nat) (eF : Nat → Int) (gF : Nat → Bool) (ev : Nat) (hI : tys[1]? = some (cI, .int)) (hJ : tys[2]? = some (cJ, .long)) (hG : tys[3]? = some (cG, .boolean)) (hJJ : tys[5]? = some (cJJ, .array .long)) (hGG : tys[6]? = some (cGG, .array .boolean)) (gz : zi < 8) (gev : ev ≤ 660) : pMet l y_Ref_minutes c_Ref_minutes 3 (some .int) rm_Ref_minutes D tys [.ref mm, .int (iI ((zi : Int))), .int (iI ((ev : Int)))] [(mm, .inr (4, [.int (iI fa), .ref tA, .int (iI ((nn : Int))), .int (iI pl), .int (iI yr), .int (iI mn), .int (iI dy), .int (iI ((i : Int))), .ref oA, .ref sA, .ref eA, .ref gA, .ref cA, .ref rA, .ref fA])), (oA, .inl (cI, 8, .inl (fun j => iI (oI j)))), (sA, .inl (cI, 8, .inl (fun j => iI (sI j)))), (eA, .inl (cJJ, 8, .inr (.inr (.inr (.inr (fun k => some (eR k))))))), (gA, .inl (cGG, 8, .inr (.inr (.inr (.inr (fun k => some (gR k))))))), (cA, .inl (cI, 8, .inl (fun j => iI (cN j : Int)))), (eR zi, .inl (cJ, 660, .inr (.inl (fun j => lL (eF j))))), (gR zi, .inl (cG, 660, .inl (fun j => iI (bI (gF j)))))] (.int (iI (rMin (oI zi) (sI zi) ev gF))) := by
  refine pMet_of (by decide) (Nat.le_of_ble_eq_true rfl) ?_
  intro p e s m below meth c hx hb hr hown hlk hml hk hK hP hD ls hl
  have hl : lv_has ls 3 [(0, .ref mm), (1, .int (iI ((zi : Int)))), (2, .int (iI ((ev : Int))))] := hl
  refine lv_aload_n hx hb d_Ref_minutes_0 rfl (lv_at hl 0 rfl) ?_
  refine g_get hx hb hk hown hK hP 0 rfl f_Ref_17 rfl d_Ref_minutes_1 ?_
  refine lv_iload_n hx hb d_Ref_minutes_4 rfl (lv_at hl 1 rfl) ?_
  refine g_iald (i := zi) hx hb hK hP 1 1 rfl hI d_Ref_minutes_5 ?_
  refine lv_iload_n hx hb d_Ref_minutes_6 rfl (lv_at hl 2 rfl) ?_
  refine ri_if_le (tgt := 32) hx hb d_Ref_minutes_7 (by decide) (fun h7 => ?_) (fun h7 => ?_)
  · refine lv_iconst (v := iI 0) hx hb d_Ref_minutes_32 rfl ?_
    refine ri_iadd hx hb d_Ref_minutes_33 ?_
    exact p_iret hx hb hr hlk d_Ref_minutes_34 (by unfold rMin; first | (rw [decide_eq_false (show ¬ 0 < ev by omega)]; rfl) | (rw [decide_eq_true (show 0 < ev by omega), bI_e1 h20]; rfl) | (rw [decide_eq_true (show 0 < ev by omega), bI_e0 h20]; rfl))
  · refine lv_aload_n hx hb d_Ref_minutes_10 rfl (lv_at hl 0 rfl) ?_
    refine g_get hx hb hk hown hK hP 0 rfl f_Ref_31 rfl d_Ref_minutes_11 ?_
    refine lv_iload_n hx hb d_Ref_minutes_14 rfl (lv_at hl 1 rfl) ?_
    refine g_aald (i := zi) hx hb hK hP 4 6 rfl hGG rfl (rfl) d_Ref_minutes_15 ?_
    refine lv_iload_n hx hb d_Ref_minutes_16 rfl (lv_at hl 2 rfl) ?_
    refine lv_iconst (v := iI 1) hx hb d_Ref_minutes_17 rfl ?_
    refine ri_isub hx hb d_Ref_minutes_18 ?_
    refine ri_i (show ((ev : Int)) - 1 = ((ev - 1 : Nat) : Int) from by omega) ?_
    refine g_zald (i := ev - 1) hx hb hK hP 7 3 rfl hG d_Ref_minutes_19 ?_ (by omega) (by decide)
    have gB := bI_b (gF (ev - 1))
    refine ri_if_eq (tgt := 32) hx hb d_Ref_minutes_20 (by decide) (fun h20 => ?_) (fun h20 => ?_)
    · refine lv_iconst (v := iI 0) hx hb d_Ref_minutes_32 rfl ?_
      refine ri_iadd hx hb d_Ref_minutes_33 ?_
      exact p_iret hx hb hr hlk d_Ref_minutes_34 (by unfold rMin; first | (rw [decide_eq_false (show ¬ 0 < ev by omega)]; rfl) | (rw [decide_eq_true (show 0 < ev by omega), bI_e1 h20]; rfl) | (rw [decide_eq_true (show 0 < ev by omega), bI_e0 h20]; rfl))
    · refine lv_aload_n hx hb d_Ref_minutes_23 rfl (lv_at hl 0 rfl) ?_
      refine g_get hx hb hk hown hK hP 0 rfl f_Ref_21 rfl d_Ref_minutes_24 ?_
      refine lv_iload_n hx hb d_Ref_minutes_27 rfl (lv_at hl 1 rfl) ?_
      refine g_iald (i := zi) hx hb hK hP 2 1 rfl hI d_Ref_minutes_28 ?_
      refine lv_goto (tgt := 33) hx hb d_Ref_minutes_29 (by decide) ?_
      refine ri_iadd hx hb d_Ref_minutes_33 ?_
      exact p_iret hx hb hr hlk d_Ref_minutes_34 (by unfold rMin; first | (rw [decide_eq_false (show ¬ 0 < ev by omega)]; rfl) | (rw [decide_eq_true (show 0 < ev by omega), bI_e1 h20]; rfl) | (rw [decide_eq_true (show 0 < ev by omega), bI_e0 h20]; rfl))
abbrev rm_Ref_summer : Room := { frames := 0, cells := 0, slots := 0, locals := 0 }
set_option maxHeartbeats 4000000 in
set_option maxRecDepth 100000 in
theorem ct_Ref_summer (l : Launch) (D : va_G) (tys : List (ClassId × FieldType)) (mm : Nat) (tA : Nat) (oA : Nat) (sA : Nat) (eA : Nat) (gA : Nat) (cA : Nat) (rA : Nat) (fA : Nat) (fa : Int) (nn : Nat) (pl : Int) (yr : Int) (mn : Int) (dy : Int) (i : Nat) (cI : ClassId) (cJ : ClassId) (cG : ClassId) (cJJ : ClassId) (cGG : ClassId) (oI : Nat → Int) (sI : Nat → Int) (cN : Nat → Nat) (eR : Nat → Nat) (gR : Nat → Nat) (zi : Nat) (eF : Nat → Int) (gF : Nat → Bool) (ev : Nat) (hI : tys[1]? = some (cI, .int)) (hJ : tys[2]? = some (cJ, .long)) (hG : tys[3]? = some (cG, .boolean)) (hJJ : tys[5]? = some (cJJ, .array .long)) (hGG : tys[6]? = some (cGG, .array .boolean)) (gz : zi < 8) (gev : ev ≤ 660) : pMet l y_Ref_summer c_Ref_summer 3 (some .boolean) rm_Ref_summer D tys [.ref mm, .int (iI ((zi : Int))), .int (iI ((ev : Int)))] [(mm, .inr (4, [.int (iI fa), .ref tA, .int (iI ((nn : Int))), .int (iI pl), .int (iI yr), .int (iI mn), .int (iI dy), .int (iI ((i : Int))), .ref oA, .ref sA, .ref eA, .ref gA, .ref cA, .ref rA, .ref fA])), (oA, .inl (cI, 8, .inl (fun j => iI (oI j)))), (sA, .inl (cI, 8, .inl (fun j => iI (sI j)))), (eA, .inl (cJJ, 8, .inr (.inr (.inr (.inr (fun k => some (eR k))))))), (gA, .inl (cGG, 8, .inr (.inr (.inr (.inr (fun k => some (gR k))))))), (cA, .inl (cI, 8, .inl (fun j => iI (cN j : Int)))), (eR zi, .inl (cJ, 660, .inr (.inl (fun j => lL (eF j))))), (gR zi, .inl (cG, 660, .inl (fun j => iI (bI (gF j)))))] (.int (iI (bI (decide (0 < ev) && gF (ev - 1))))) := by
  refine pMet_of (by decide) (Nat.le_of_ble_eq_true rfl) ?_
  intro p e s m below meth c hx hb hr hown hlk hml hk hK hP hD ls hl
  have hl : lv_has ls 3 [(0, .ref mm), (1, .int (iI ((zi : Int)))), (2, .int (iI ((ev : Int))))] := hl
  refine lv_iload_n hx hb d_Ref_summer_0 rfl (lv_at hl 2 rfl) ?_
  refine ri_if_le (tgt := 21) hx hb d_Ref_summer_1 (by decide) (fun h1 => ?_) (fun h1 => ?_)
  · refine lv_iconst (v := iI 0) hx hb d_Ref_summer_21 rfl ?_
    exact p_zret hx hb hr hlk d_Ref_summer_22 (by first | (rw [decide_eq_false (show ¬ 0 < ev by omega)]; rfl) | (rw [decide_eq_true (show 0 < ev by omega), bI_e1 h14]; rfl) | (rw [decide_eq_true (show 0 < ev by omega), bI_e0 h14]; rfl)) (by omega)
  · refine lv_aload_n hx hb d_Ref_summer_4 rfl (lv_at hl 0 rfl) ?_
    refine g_get hx hb hk hown hK hP 0 rfl f_Ref_31 rfl d_Ref_summer_5 ?_
    refine lv_iload_n hx hb d_Ref_summer_8 rfl (lv_at hl 1 rfl) ?_
    refine g_aald (i := zi) hx hb hK hP 4 6 rfl hGG rfl (rfl) d_Ref_summer_9 ?_
    refine lv_iload_n hx hb d_Ref_summer_10 rfl (lv_at hl 2 rfl) ?_
    refine lv_iconst (v := iI 1) hx hb d_Ref_summer_11 rfl ?_
    refine ri_isub hx hb d_Ref_summer_12 ?_
    refine ri_i (show ((ev : Int)) - 1 = ((ev - 1 : Nat) : Int) from by omega) ?_
    refine g_zald (i := ev - 1) hx hb hK hP 7 3 rfl hG d_Ref_summer_13 ?_ (by omega) (by decide)
    have gB := bI_b (gF (ev - 1))
    refine ri_if_eq (tgt := 21) hx hb d_Ref_summer_14 (by decide) (fun h14 => ?_) (fun h14 => ?_)
    · refine lv_iconst (v := iI 0) hx hb d_Ref_summer_21 rfl ?_
      exact p_zret hx hb hr hlk d_Ref_summer_22 (by first | (rw [decide_eq_false (show ¬ 0 < ev by omega)]; rfl) | (rw [decide_eq_true (show 0 < ev by omega), bI_e1 h14]; rfl) | (rw [decide_eq_true (show 0 < ev by omega), bI_e0 h14]; rfl)) (by omega)
    · refine lv_iconst (v := iI 1) hx hb d_Ref_summer_17 rfl ?_
      refine lv_goto (tgt := 22) hx hb d_Ref_summer_18 (by decide) ?_
      exact p_zret hx hb hr hlk d_Ref_summer_22 (by first | (rw [decide_eq_false (show ¬ 0 < ev by omega)]; rfl) | (rw [decide_eq_true (show 0 < ev by omega), bI_e1 h14]; rfl) | (rw [decide_eq_true (show 0 < ev by omega), bI_e0 h14]; rfl)) (by omega)
abbrev rm_Ref_localAt : Room := { frames := 1, cells := 0, slots := 0, locals := 26 }
set_option maxHeartbeats 4000000 in
set_option maxRecDepth 100000 in
theorem ct_Ref_localAt (l : Launch) (D : va_G) (tys : List (ClassId × FieldType)) (mm : Nat) (tA : Nat) (oA : Nat) (sA : Nat) (eA : Nat) (gA : Nat) (cA : Nat) (rA : Nat) (fA : Nat) (fa : Int) (nn : Nat) (pl : Int) (yr : Int) (mn : Int) (dy : Int) (i : Nat) (cI : ClassId) (cJ : ClassId) (cG : ClassId) (cJJ : ClassId) (cGG : ClassId) (oI : Nat → Int) (sI : Nat → Int) (cN : Nat → Nat) (eR : Nat → Nat) (gR : Nat → Nat) (zi : Nat) (eF : Nat → Int) (gF : Nat → Bool) (t : Int) (hI : tys[1]? = some (cI, .int)) (hJ : tys[2]? = some (cJ, .long)) (hG : tys[3]? = some (cG, .boolean)) (hJJ : tys[5]? = some (cJJ, .array .long)) (hGG : tys[6]? = some (cGG, .array .boolean)) (gz : zi < 8) (gc : cN zi ≤ 660) (gE : ∀ k, k < 660 → -1000000000000000 ≤ eF k ∧ eF k ≤ 1000000000000000) (hs : evS (cN zi) eF gF) (go1 : -840 ≤ oI zi) (go2 : oI zi ≤ 840) (gs1 : 0 ≤ sI zi) (gs2 : sI zi ≤ 120) (gi1 : -100000000000000 ≤ t) (gi2 : t ≤ 100000000000000) : pMet l y_Ref_localAt c_Ref_localAt 4 (some .long) rm_Ref_localAt D tys [.ref mm, .int (iI ((zi : Int))), .long (lL t)] [(mm, .inr (4, [.int (iI fa), .ref tA, .int (iI ((nn : Int))), .int (iI pl), .int (iI yr), .int (iI mn), .int (iI dy), .int (iI ((i : Int))), .ref oA, .ref sA, .ref eA, .ref gA, .ref cA, .ref rA, .ref fA])), (oA, .inl (cI, 8, .inl (fun j => iI (oI j)))), (sA, .inl (cI, 8, .inl (fun j => iI (sI j)))), (eA, .inl (cJJ, 8, .inr (.inr (.inr (.inr (fun k => some (eR k))))))), (gA, .inl (cGG, 8, .inr (.inr (.inr (.inr (fun k => some (gR k))))))), (cA, .inl (cI, 8, .inl (fun j => iI (cN j : Int)))), (eR zi, .inl (cJ, 660, .inr (.inl (fun j => lL (eF j))))), (gR zi, .inl (cG, 660, .inl (fun j => iI (bI (gF j)))))] (.long (lL (t + 60000 * rMin (oI zi) (sI zi) (evK eF t (cN zi)) gF))) := by
  refine pMet_of (by decide) (Nat.le_of_ble_eq_true rfl) ?_
  intro p e s m below meth c hx hb hr hown hlk hml hk hK hP hD ls hl
  have hl : lv_has ls 4 [(0, .ref mm), (1, .int (iI ((zi : Int)))), (2, .long (lL t))] := hl
  refine lv_lload_n hx hb d_Ref_localAt_0 rfl (lv_at hl 2 rfl) ?_
  refine lv_ldc2 (v := lL 60000) hx hb hown (hk _ kc_Ref_122 _) d_Ref_localAt_1 ?_
  refine lv_aload_n hx hb d_Ref_localAt_4 rfl (lv_at hl 0 rfl) ?_
  refine lv_iload_n hx hb d_Ref_localAt_5 rfl (lv_at hl 1 rfl) ?_
  refine lv_aload_n hx hb d_Ref_localAt_6 rfl (lv_at hl 0 rfl) ?_
  refine lv_iload_n hx hb d_Ref_localAt_7 rfl (lv_at hl 1 rfl) ?_
  refine lv_lload_n hx hb d_Ref_localAt_8 rfl (lv_at hl 2 rfl) ?_
  refine p_callV (rest := [.int (iI ((zi : Int))), .ref mm, .long (lL 60000), .long (lL t)]) (q0 := 0) hx hb (hml.trans hl.1.symm) hown hk hK k_Ref_128 (ct_Ref_passed l D tys mm tA oA sA eA gA cA rA fA fa nn pl yr mn dy i cI cJ cG cJJ cGG oI sI cN eR gR zi eF gF t hI hJ hG hJJ hGG gz gc gE hs (by omega) (by omega)) (w_subP (is := [0, 1, 2, 3, 4, 5, 6, 7]) hP rfl) (w_subD (is := [0, 1, 2, 3, 4, 5, 6, 7]) hD rfl rfl) rfl rfl rfl rfl ⟨rfl, rfl⟩ ⟨by decide, by decide, by decide, by decide⟩ (Nat.le_of_ble_eq_true rfl) d_Ref_localAt_9 ?_
  refine p_callV (rest := [.long (lL 60000), .long (lL t)]) (q0 := 0) hx hb (hml.trans hl.1.symm) hown hk hK k_Ref_132 (ct_Ref_minutes l D tys mm tA oA sA eA gA cA rA fA fa nn pl yr mn dy i cI cJ cG cJJ cGG oI sI cN eR gR zi eF gF (evK eF t (cN zi)) hI hJ hG hJJ hGG gz (by have := evK_le eF t (cN zi); omega)) (w_subP (is := [0, 1, 2, 3, 4, 5, 6, 7]) hP rfl) (w_subD (is := [0, 1, 2, 3, 4, 5, 6, 7]) hD rfl rfl) rfl rfl rfl rfl ⟨rfl, rfl⟩ ⟨by decide, by decide, by decide, by decide⟩ (Nat.le_of_ble_eq_true rfl) d_Ref_localAt_12 ?_
  have gm := rMin_bd (ev := evK eF t (cN zi)) (G := gF) go1 go2 gs1 gs2
  refine ri_i2l hx hb d_Ref_localAt_15 ?_
  refine ri_lmul hx hb d_Ref_localAt_16 ?_
  refine ri_ladd hx hb d_Ref_localAt_17 ?_
  exact p_lret hx hb hr hlk d_Ref_localAt_18 (by rfl)
abbrev rm_Ref_out : Room := { frames := 0, cells := 0, slots := 0, locals := 0 }
set_option maxHeartbeats 4000000 in
set_option maxRecDepth 100000 in
theorem ct_Ref_out (l : Launch) (D : va_G) (tys : List (ClassId × FieldType)) (mm : Nat) (tA : Nat) (oA : Nat) (sA : Nat) (eA : Nat) (gA : Nat) (cA : Nat) (rA : Nat) (fA : Nat) (fa : Int) (nn : Nat) (pl : Int) (yr : Int) (mn : Int) (dy : Int) (i : Nat) (z : Int) (t : Int) (gz1 : -2147483648 ≤ z) (gz2 : z ≤ 2147483647) (gi1 : -9223372036854775808 ≤ t) (gi2 : t ≤ 9223372036854775807) : pMet l y_Ref_out c_Ref_out 4 (some .boolean) rm_Ref_out D tys [.ref mm, .int (iI z), .long (lL t)] [(mm, .inr (4, [.int (iI fa), .ref tA, .int (iI ((nn : Int))), .int (iI pl), .int (iI yr), .int (iI mn), .int (iI dy), .int (iI ((i : Int))), .ref oA, .ref sA, .ref eA, .ref gA, .ref cA, .ref rA, .ref fA]))] (.int (iI (bI (zOutB z t)))) := by
  refine pMet_of (by decide) (Nat.le_of_ble_eq_true rfl) ?_
  intro p e s m below meth c hx hb hr hown hlk hml hk hK hP hD ls hl
  have hl : lv_has ls 4 [(0, .ref mm), (1, .int (iI z)), (2, .long (lL t))] := hl
  refine lv_iload_n hx hb d_Ref_out_0 rfl (lv_at hl 1 rfl) ?_
  refine ri_if_lt (tgt := 24) hx hb d_Ref_out_1 (by decide) (fun h1 => ?_) (fun h1 => ?_)
  · refine lv_iconst (v := iI 1) hx hb d_Ref_out_24 rfl ?_
    refine lv_goto (tgt := 29) hx hb d_Ref_out_25 (by decide) ?_
    exact p_zret hx hb hr hlk d_Ref_out_29 (by unfold zOutB; first | (rw [decide_eq_true (by omega)]; rfl) | (rw [decide_eq_false (by omega)]; rfl)) (by omega)
  · refine lv_iload_n hx hb d_Ref_out_4 rfl (lv_at hl 1 rfl) ?_
    refine lv_bipush (v := iI 7) hx hb d_Ref_out_5 (by decide) ?_
    refine ri_icmp_gt (tgt := 24) hx hb d_Ref_out_7 (by decide) (fun h7 => ?_) (fun h7 => ?_)
    · refine lv_iconst (v := iI 1) hx hb d_Ref_out_24 rfl ?_
      refine lv_goto (tgt := 29) hx hb d_Ref_out_25 (by decide) ?_
      exact p_zret hx hb hr hlk d_Ref_out_29 (by unfold zOutB; first | (rw [decide_eq_true (by omega)]; rfl) | (rw [decide_eq_false (by omega)]; rfl)) (by omega)
    · refine lv_lload_n hx hb d_Ref_out_10 rfl (lv_at hl 2 rfl) ?_
      refine lv_lconst (v := lL 0) hx hb d_Ref_out_11 (by decide) ?_
      refine ri_lcmp_lt (tgt := 24) hx hb d_Ref_out_12 d_Ref_out_13 (by decide) (fun h12 => ?_) (fun h12 => ?_)
      · refine lv_iconst (v := iI 1) hx hb d_Ref_out_24 rfl ?_
        refine lv_goto (tgt := 29) hx hb d_Ref_out_25 (by decide) ?_
        exact p_zret hx hb hr hlk d_Ref_out_29 (by unfold zOutB; first | (rw [decide_eq_true (by omega)]; rfl) | (rw [decide_eq_false (by omega)]; rfl)) (by omega)
      · refine lv_lload_n hx hb d_Ref_out_16 rfl (lv_at hl 2 rfl) ?_
        refine lv_ldc2 (v := lL 10413791999999) hx hb hown (hk _ kc_Ref_135 _) d_Ref_out_17 ?_
        refine ri_lcmp_le (tgt := 28) hx hb d_Ref_out_20 d_Ref_out_21 (by decide) (fun h20 => ?_) (fun h20 => ?_)
        · refine lv_iconst (v := iI 0) hx hb d_Ref_out_28 rfl ?_
          exact p_zret hx hb hr hlk d_Ref_out_29 (by unfold zOutB; first | (rw [decide_eq_true (by omega)]; rfl) | (rw [decide_eq_false (by omega)]; rfl)) (by omega)
        · refine lv_iconst (v := iI 1) hx hb d_Ref_out_24 rfl ?_
          refine lv_goto (tgt := 29) hx hb d_Ref_out_25 (by decide) ?_
          exact p_zret hx hb hr hlk d_Ref_out_29 (by unfold zOutB; first | (rw [decide_eq_true (by omega)]; rfl) | (rw [decide_eq_false (by omega)]; rfl)) (by omega)
abbrev rm_Ref_local : Room := { frames := 2, cells := 0, slots := 0, locals := 49 }
set_option maxHeartbeats 4000000 in
set_option maxRecDepth 100000 in
theorem ct_Ref_local (l : Launch) (D : va_G) (tys : List (ClassId × FieldType)) (mm : Nat) (tA : Nat) (oA : Nat) (sA : Nat) (eA : Nat) (gA : Nat) (cA : Nat) (rA : Nat) (fA : Nat) (fa : Int) (nn : Nat) (pl : Int) (yr : Int) (mn : Int) (dy : Int) (i : Nat) (cI : ClassId) (cJ : ClassId) (cG : ClassId) (cJJ : ClassId) (cGG : ClassId) (oI : Nat → Int) (sI : Nat → Int) (cN : Nat → Nat) (eR : Nat → Nat) (gR : Nat → Nat) (zi : Nat) (eF : Nat → Int) (gF : Nat → Bool) (t : Int) (hI : tys[1]? = some (cI, .int)) (hJ : tys[2]? = some (cJ, .long)) (hG : tys[3]? = some (cG, .boolean)) (hJJ : tys[5]? = some (cJJ, .array .long)) (hGG : tys[6]? = some (cGG, .array .boolean)) (gz : zi < 8) (gc : cN zi ≤ 660) (gE : ∀ k, k < 660 → -1000000000000000 ≤ eF k ∧ eF k ≤ 1000000000000000) (hs : evS (cN zi) eF gF) (go1 : -840 ≤ oI zi) (go2 : oI zi ≤ 840) (gs1 : 0 ≤ sI zi) (gs2 : sI zi ≤ 120) (gt1 : 0 ≤ t) (gt2 : t ≤ 10413791999999) : mMet l y_Ref_local c_Ref_local 4 (some .long) rm_Ref_local D tys [.ref mm, .int (iI ((zi : Int))), .long (lL t)] [(mm, .inr (4, [.int (iI fa), .ref tA, .int (iI ((nn : Int))), .int (iI pl), .int (iI yr), .int (iI mn), .int (iI dy), .int (iI ((i : Int))), .ref oA, .ref sA, .ref eA, .ref gA, .ref cA, .ref rA, .ref fA])), (oA, .inl (cI, 8, .inl (fun j => iI (oI j)))), (sA, .inl (cI, 8, .inl (fun j => iI (sI j)))), (eA, .inl (cJJ, 8, .inr (.inr (.inr (.inr (fun k => some (eR k))))))), (gA, .inl (cGG, 8, .inr (.inr (.inr (.inr (fun k => some (gR k))))))), (cA, .inl (cI, 8, .inl (fun j => iI (cN j : Int)))), (eR zi, .inl (cJ, 660, .inr (.inl (fun j => lL (eF j))))), (gR zi, .inl (cG, 660, .inl (fun j => iI (bI (gF j)))))] (some (.long (lL (t + 60000 * rMin (oI zi) (sI zi) (evK eF t (cN zi)) gF)))) [(mm, .inr (4, [.int (iI 0), .ref tA, .int (iI ((nn : Int))), .int (iI pl), .int (iI yr), .int (iI mn), .int (iI dy), .int (iI ((i : Int))), .ref oA, .ref sA, .ref eA, .ref gA, .ref cA, .ref rA, .ref fA])), (oA, .inl (cI, 8, .inl (fun j => iI (oI j)))), (sA, .inl (cI, 8, .inl (fun j => iI (sI j)))), (eA, .inl (cJJ, 8, .inr (.inr (.inr (.inr (fun k => some (eR k))))))), (gA, .inl (cGG, 8, .inr (.inr (.inr (.inr (fun k => some (gR k))))))), (cA, .inl (cI, 8, .inl (fun j => iI (cN j : Int)))), (eR zi, .inl (cJ, 660, .inr (.inl (fun j => lL (eF j))))), (gR zi, .inl (cG, 660, .inl (fun j => iI (bI (gF j)))))] := by
  refine mMet_of (by decide) (Nat.le_of_ble_eq_true rfl) ?_
  intro p e s m below meth c hx hb hr hown hlk hml hk hK hP hD hS ls hl
  have hl : lv_has ls 4 [(0, .ref mm), (1, .int (iI ((zi : Int)))), (2, .long (lL t))] := hl
  refine lv_aload_n hx hb d_Ref_local_0 rfl (lv_at hl 0 rfl) ?_
  refine lv_iconst (v := iI 0) hx hb d_Ref_local_1 rfl ?_
  refine g_put hx hb hk hown hK hP hD hS 0 rfl f_Ref_44 fT_Ref rfl (rfl) rfl (Nat.le_of_ble_eq_true rfl) d_Ref_local_2 (fun H locs hP hD hS => ?_)
  have hP : va_P D vwCl [(mm, .inr (4, [.int (iI 0), .ref tA, .int (iI ((nn : Int))), .int (iI pl), .int (iI yr), .int (iI mn), .int (iI dy), .int (iI ((i : Int))), .ref oA, .ref sA, .ref eA, .ref gA, .ref cA, .ref rA, .ref fA])), (oA, .inl (cI, 8, .inl (fun j => iI (oI j)))), (sA, .inl (cI, 8, .inl (fun j => iI (sI j)))), (eA, .inl (cJJ, 8, .inr (.inr (.inr (.inr (fun k => some (eR k))))))), (gA, .inl (cGG, 8, .inr (.inr (.inr (.inr (fun k => some (gR k))))))), (cA, .inl (cI, 8, .inl (fun j => iI (cN j : Int)))), (eR zi, .inl (cJ, 660, .inr (.inl (fun j => lL (eF j))))), (gR zi, .inl (cG, 660, .inl (fun j => iI (bI (gF j)))))] H := hP
  have hD : va_D (wA [(mm, .inr (4, [.int (iI fa), .ref tA, .int (iI ((nn : Int))), .int (iI pl), .int (iI yr), .int (iI mn), .int (iI dy), .int (iI ((i : Int))), .ref oA, .ref sA, .ref eA, .ref gA, .ref cA, .ref rA, .ref fA])), (oA, .inl (cI, 8, .inl (fun j => iI (oI j)))), (sA, .inl (cI, 8, .inl (fun j => iI (sI j)))), (eA, .inl (cJJ, 8, .inr (.inr (.inr (.inr (fun k => some (eR k))))))), (gA, .inl (cGG, 8, .inr (.inr (.inr (.inr (fun k => some (gR k))))))), (cA, .inl (cI, 8, .inl (fun j => iI (cN j : Int)))), (eR zi, .inl (cJ, 660, .inr (.inl (fun j => lL (eF j))))), (gR zi, .inl (cG, 660, .inl (fun j => iI (bI (gF j)))))]) [(mm, .inr (4, [.int (iI 0), .ref tA, .int (iI ((nn : Int))), .int (iI pl), .int (iI yr), .int (iI mn), .int (iI dy), .int (iI ((i : Int))), .ref oA, .ref sA, .ref eA, .ref gA, .ref cA, .ref rA, .ref fA])), (oA, .inl (cI, 8, .inl (fun j => iI (oI j)))), (sA, .inl (cI, 8, .inl (fun j => iI (sI j)))), (eA, .inl (cJJ, 8, .inr (.inr (.inr (.inr (fun k => some (eR k))))))), (gA, .inl (cGG, 8, .inr (.inr (.inr (.inr (fun k => some (gR k))))))), (cA, .inl (cI, 8, .inl (fun j => iI (cN j : Int)))), (eR zi, .inl (cJ, 660, .inr (.inl (fun j => lL (eF j))))), (gR zi, .inl (cG, 660, .inl (fun j => iI (bI (gF j)))))] := hD
  refine lv_aload_n hx hb d_Ref_local_5 rfl (lv_at hl 0 rfl) ?_
  refine lv_iload_n hx hb d_Ref_local_6 rfl (lv_at hl 1 rfl) ?_
  refine lv_lload_n hx hb d_Ref_local_7 rfl (lv_at hl 2 rfl) ?_
  refine p_callV (rest := []) (q0 := 0) hx hb (hml.trans hl.1.symm) hown hk hK k_Ref_137 (ct_Ref_out l D tys mm tA oA sA eA gA cA rA fA 0 nn pl yr mn dy i ((zi : Int)) t (by omega) (by omega) (by omega) (by omega)) (w_subP (is := [0]) hP rfl) (w_subD (is := [0]) hD rfl rfl) rfl rfl rfl rfl ⟨rfl, rfl⟩ ⟨by decide, by decide, by decide, by decide⟩ (Nat.le_of_ble_eq_true rfl) d_Ref_local_8 ?_
  have gO : zOutB (zi : Int) t = false := by unfold zOutB; exact decide_eq_false (by omega)
  have gO2 : bI (zOutB (zi : Int) t) = 0 := by rw [gO]; rfl
  refine ri_if_eq (tgt := 23) hx hb d_Ref_local_11 (by decide) (fun h11 => ?_) (fun h11 => ?_)
  · refine lv_aload_n hx hb d_Ref_local_23 rfl (lv_at hl 0 rfl) ?_
    refine lv_iload_n hx hb d_Ref_local_24 rfl (lv_at hl 1 rfl) ?_
    refine lv_lload_n hx hb d_Ref_local_25 rfl (lv_at hl 2 rfl) ?_
    refine p_callV (rest := []) (q0 := 0) hx hb (hml.trans hl.1.symm) hown hk hK k_Ref_144 (ct_Ref_localAt l D tys mm tA oA sA eA gA cA rA fA 0 nn pl yr mn dy i cI cJ cG cJJ cGG oI sI cN eR gR zi eF gF t hI hJ hG hJJ hGG gz gc gE hs go1 go2 gs1 gs2 (by omega) (by omega)) (w_subP (is := [0, 1, 2, 3, 4, 5, 6, 7]) hP rfl) (w_subD (is := [0, 1, 2, 3, 4, 5, 6, 7]) hD rfl rfl) rfl rfl rfl rfl ⟨rfl, rfl⟩ ⟨by decide, by decide, by decide, by decide⟩ (Nat.le_of_ble_eq_true rfl) d_Ref_local_26 ?_
    exact m_lret hx hb hr hlk hP hS d_Ref_local_29 (by rfl) (by rfl)
  · exfalso; omega
abbrev rm_Ref_local_b : Room := { frames := 1, cells := 0, slots := 0, locals := 23 }
set_option maxHeartbeats 4000000 in
set_option maxRecDepth 100000 in
theorem ct_Ref_local_b (l : Launch) (D : va_G) (tys : List (ClassId × FieldType)) (mm : Nat) (tA : Nat) (oA : Nat) (sA : Nat) (eA : Nat) (gA : Nat) (cA : Nat) (rA : Nat) (fA : Nat) (fa : Int) (nn : Nat) (pl : Int) (yr : Int) (mn : Int) (dy : Int) (i : Nat) (z : Int) (t : Int) (gz1 : -2147483648 ≤ z) (gz2 : z ≤ 2147483647) (gi1 : -9223372036854775808 ≤ t) (gi2 : t ≤ 9223372036854775807) (gbad : z < 0 ∨ 7 < z ∨ t < 0 ∨ 10413791999999 < t) : mMet l y_Ref_local c_Ref_local 4 (some .long) rm_Ref_local_b D tys [.ref mm, .int (iI z), .long (lL t)] [(mm, .inr (4, [.int (iI fa), .ref tA, .int (iI ((nn : Int))), .int (iI pl), .int (iI yr), .int (iI mn), .int (iI dy), .int (iI ((i : Int))), .ref oA, .ref sA, .ref eA, .ref gA, .ref cA, .ref rA, .ref fA]))] (some (.long (lL 0))) [(mm, .inr (4, [.int (iI 1), .ref tA, .int (iI ((nn : Int))), .int (iI pl), .int (iI yr), .int (iI mn), .int (iI dy), .int (iI ((i : Int))), .ref oA, .ref sA, .ref eA, .ref gA, .ref cA, .ref rA, .ref fA]))] := by
  refine mMet_of (by decide) (Nat.le_of_ble_eq_true rfl) ?_
  intro p e s m below meth c hx hb hr hown hlk hml hk hK hP hD hS ls hl
  have hl : lv_has ls 4 [(0, .ref mm), (1, .int (iI z)), (2, .long (lL t))] := hl
  refine lv_aload_n hx hb d_Ref_local_0 rfl (lv_at hl 0 rfl) ?_
  refine lv_iconst (v := iI 0) hx hb d_Ref_local_1 rfl ?_
  refine g_put hx hb hk hown hK hP hD hS 0 rfl f_Ref_44 fT_Ref rfl (rfl) rfl (Nat.le_of_ble_eq_true rfl) d_Ref_local_2 (fun H locs hP hD hS => ?_)
  have hP : va_P D vwCl [(mm, .inr (4, [.int (iI 0), .ref tA, .int (iI ((nn : Int))), .int (iI pl), .int (iI yr), .int (iI mn), .int (iI dy), .int (iI ((i : Int))), .ref oA, .ref sA, .ref eA, .ref gA, .ref cA, .ref rA, .ref fA]))] H := hP
  have hD : va_D (wA [(mm, .inr (4, [.int (iI fa), .ref tA, .int (iI ((nn : Int))), .int (iI pl), .int (iI yr), .int (iI mn), .int (iI dy), .int (iI ((i : Int))), .ref oA, .ref sA, .ref eA, .ref gA, .ref cA, .ref rA, .ref fA]))]) [(mm, .inr (4, [.int (iI 0), .ref tA, .int (iI ((nn : Int))), .int (iI pl), .int (iI yr), .int (iI mn), .int (iI dy), .int (iI ((i : Int))), .ref oA, .ref sA, .ref eA, .ref gA, .ref cA, .ref rA, .ref fA]))] := hD
  refine lv_aload_n hx hb d_Ref_local_5 rfl (lv_at hl 0 rfl) ?_
  refine lv_iload_n hx hb d_Ref_local_6 rfl (lv_at hl 1 rfl) ?_
  refine lv_lload_n hx hb d_Ref_local_7 rfl (lv_at hl 2 rfl) ?_
  refine p_callV (rest := []) (q0 := 0) hx hb (hml.trans hl.1.symm) hown hk hK k_Ref_137 (ct_Ref_out l D tys mm tA oA sA eA gA cA rA fA 0 nn pl yr mn dy i z t (by omega) (by omega) (by omega) (by omega)) (w_subP (is := [0]) hP rfl) (w_subD (is := [0]) hD rfl rfl) rfl rfl rfl rfl ⟨rfl, rfl⟩ ⟨by decide, by decide, by decide, by decide⟩ (Nat.le_of_ble_eq_true rfl) d_Ref_local_8 ?_
  have gO : zOutB z t = true := by unfold zOutB; exact decide_eq_true (by omega)
  have gO2 : bI (zOutB z t) = 1 := by rw [gO]; rfl
  refine ri_if_eq (tgt := 23) hx hb d_Ref_local_11 (by decide) (fun h11 => ?_) (fun h11 => ?_)
  · exfalso; omega
  · refine lv_aload_n hx hb d_Ref_local_14 rfl (lv_at hl 0 rfl) ?_
    refine lv_iconst (v := iI 1) hx hb d_Ref_local_15 rfl ?_
    refine m_callV (rest := []) (q0 := 0) hx hb (hml.trans hl.1.symm) hown hk hK k_Ref_141 (ct_Ref_fail l D tys mm tA oA sA eA gA cA rA fA 0 nn pl yr mn dy i 1 ) hP hD hS [0] rfl rfl rfl rfl rfl rfl rfl ⟨rfl, rfl⟩ ⟨by decide, by decide, by decide, by decide⟩ (Nat.le_of_ble_eq_true rfl) d_Ref_local_16 (fun H locs hP hD hS => ?_)
    have hP : va_P D vwCl [(mm, .inr (4, [.int (iI 1), .ref tA, .int (iI ((nn : Int))), .int (iI pl), .int (iI yr), .int (iI mn), .int (iI dy), .int (iI ((i : Int))), .ref oA, .ref sA, .ref eA, .ref gA, .ref cA, .ref rA, .ref fA]))] H := hP
    have hD : va_D (wA [(mm, .inr (4, [.int (iI fa), .ref tA, .int (iI ((nn : Int))), .int (iI pl), .int (iI yr), .int (iI mn), .int (iI dy), .int (iI ((i : Int))), .ref oA, .ref sA, .ref eA, .ref gA, .ref cA, .ref rA, .ref fA]))]) [(mm, .inr (4, [.int (iI 1), .ref tA, .int (iI ((nn : Int))), .int (iI pl), .int (iI yr), .int (iI mn), .int (iI dy), .int (iI ((i : Int))), .ref oA, .ref sA, .ref eA, .ref gA, .ref cA, .ref rA, .ref fA]))] := hD
    refine ri_i2l hx hb d_Ref_local_19 ?_
    refine lv_goto (tgt := 29) hx hb d_Ref_local_20 (by decide) ?_
    exact m_lret hx hb hr hlk hP hS d_Ref_local_29 (by rfl) (by rfl)
end
