section
-- ===== PART A: goes FIRST, ahead of the names: the tables' words, and 'selects' of the private methods out of them =====
/-- a private method of a class that the tables say can be made, by its rows of tables_1 -/
def lw_okq (q : MethodName × Nat) : Prop := (q.1.cls ≠ "java/lang/invoke/MethodHandle" ∧ q.1.cls ≠ "java/lang/invoke/VarHandle") ∧ Cond.instantiable q.1.cls q.2 ∈ tables_1 ∧ Cond.privateMethod q.1 ∈ tables_1 ∧ Cond.instanceMethod q.1 ∈ tables_1
theorem lw_p0 : lw_okq (⟨"java/lang/Throwable", "fillInStackTrace", "(I)Ljava/lang/Throwable;"⟩, 6) := ⟨⟨by decide +kernel, by decide +kernel⟩, List.mem_of_getElem? (i := 156) (by decide +kernel), List.mem_of_getElem? (i := 154) (by decide +kernel), List.mem_of_getElem? (i := 155) (by decide +kernel)⟩
theorem lw_p1 : lw_okq (⟨"ZoneClock", "zoneAt", "(I)LZoneClock$Zone;"⟩, 4) := ⟨⟨by decide +kernel, by decide +kernel⟩, List.mem_of_getElem? (i := 16) (by decide +kernel), List.mem_of_getElem? (i := 216) (by decide +kernel), List.mem_of_getElem? (i := 217) (by decide +kernel)⟩
theorem lw_p2 : lw_okq (⟨"ZoneClock$Tape", "readOffset", "()I"⟩, 4) := ⟨⟨by decide +kernel, by decide +kernel⟩, List.mem_of_getElem? (i := 24) (by decide +kernel), List.mem_of_getElem? (i := 224) (by decide +kernel), List.mem_of_getElem? (i := 225) (by decide +kernel)⟩
theorem lw_p3 : lw_okq (⟨"ZoneClock$Tape", "nextByte", "()I"⟩, 4) := ⟨⟨by decide +kernel, by decide +kernel⟩, List.mem_of_getElem? (i := 24) (by decide +kernel), List.mem_of_getElem? (i := 228) (by decide +kernel), List.mem_of_getElem? (i := 229) (by decide +kernel)⟩
theorem lw_p4 : lw_okq (⟨"ZoneClock$Tape", "readByte", "(C)V"⟩, 4) := ⟨⟨by decide +kernel, by decide +kernel⟩, List.mem_of_getElem? (i := 24) (by decide +kernel), List.mem_of_getElem? (i := 232) (by decide +kernel), List.mem_of_getElem? (i := 233) (by decide +kernel)⟩
theorem lw_p5 : lw_okq (⟨"ZoneClock$Tape", "readNumber", "(II)I"⟩, 4) := ⟨⟨by decide +kernel, by decide +kernel⟩, List.mem_of_getElem? (i := 24) (by decide +kernel), List.mem_of_getElem? (i := 236) (by decide +kernel), List.mem_of_getElem? (i := 237) (by decide +kernel)⟩
theorem lw_p6 : lw_okq (⟨"ZoneClock$Tape", "readDigits", "()I"⟩, 4) := ⟨⟨by decide +kernel, by decide +kernel⟩, List.mem_of_getElem? (i := 24) (by decide +kernel), List.mem_of_getElem? (i := 240) (by decide +kernel), List.mem_of_getElem? (i := 241) (by decide +kernel)⟩
theorem lw_p7 : lw_okq (⟨"ZoneClock$Tape", "readBlanks", "()V"⟩, 4) := ⟨⟨by decide +kernel, by decide +kernel⟩, List.mem_of_getElem? (i := 24) (by decide +kernel), List.mem_of_getElem? (i := 251) (by decide +kernel), List.mem_of_getElem? (i := 252) (by decide +kernel)⟩
theorem lw_p8 : lw_okq (⟨"ZoneClock$Tape", "readRule", "(LZoneClock$Rule;)V"⟩, 4) := ⟨⟨by decide +kernel, by decide +kernel⟩, List.mem_of_getElem? (i := 24) (by decide +kernel), List.mem_of_getElem? (i := 255) (by decide +kernel), List.mem_of_getElem? (i := 256) (by decide +kernel)⟩
theorem lw_p9 : lw_okq (⟨"ZoneClock$Rule", "momentIn", "(I)J"⟩, 4) := ⟨⟨by decide +kernel, by decide +kernel⟩, List.mem_of_getElem? (i := 51) (by decide +kernel), List.mem_of_getElem? (i := 326) (by decide +kernel), List.mem_of_getElem? (i := 327) (by decide +kernel)⟩
theorem lw_p10 : lw_okq (⟨"ZoneClockModel", "readZone", "(I)V"⟩, 15) := ⟨⟨by decide +kernel, by decide +kernel⟩, List.mem_of_getElem? (i := 447) (by decide +kernel), List.mem_of_getElem? (i := 515) (by decide +kernel), List.mem_of_getElem? (i := 516) (by decide +kernel)⟩
theorem lw_p11 : lw_okq (⟨"ZoneClockModel", "peek", "()I"⟩, 15) := ⟨⟨by decide +kernel, by decide +kernel⟩, List.mem_of_getElem? (i := 447) (by decide +kernel), List.mem_of_getElem? (i := 519) (by decide +kernel), List.mem_of_getElem? (i := 520) (by decide +kernel)⟩
theorem lw_p12 : lw_okq (⟨"ZoneClockModel", "bad", "(I)V"⟩, 15) := ⟨⟨by decide +kernel, by decide +kernel⟩, List.mem_of_getElem? (i := 447) (by decide +kernel), List.mem_of_getElem? (i := 523) (by decide +kernel), List.mem_of_getElem? (i := 524) (by decide +kernel)⟩
theorem lw_p13 : lw_okq (⟨"ZoneClockModel", "ranged", "(II)I"⟩, 15) := ⟨⟨by decide +kernel, by decide +kernel⟩, List.mem_of_getElem? (i := 447) (by decide +kernel), List.mem_of_getElem? (i := 528) (by decide +kernel), List.mem_of_getElem? (i := 529) (by decide +kernel)⟩
theorem lw_p14 : lw_okq (⟨"ZoneClockModel", "blanks", "()V"⟩, 15) := ⟨⟨by decide +kernel, by decide +kernel⟩, List.mem_of_getElem? (i := 447) (by decide +kernel), List.mem_of_getElem? (i := 537) (by decide +kernel), List.mem_of_getElem? (i := 538) (by decide +kernel)⟩
theorem lw_p15 : lw_okq (⟨"ZoneClockModel", "rule", "(I)V"⟩, 15) := ⟨⟨by decide +kernel, by decide +kernel⟩, List.mem_of_getElem? (i := 447) (by decide +kernel), List.mem_of_getElem? (i := 541) (by decide +kernel), List.mem_of_getElem? (i := 542) (by decide +kernel)⟩
def lw_privs_1 : List (MethodName × Nat) := [(⟨"java/lang/Throwable", "fillInStackTrace", "(I)Ljava/lang/Throwable;"⟩, 6), (⟨"ZoneClock", "zoneAt", "(I)LZoneClock$Zone;"⟩, 4), (⟨"ZoneClock$Tape", "readOffset", "()I"⟩, 4), (⟨"ZoneClock$Tape", "nextByte", "()I"⟩, 4), (⟨"ZoneClock$Tape", "readByte", "(C)V"⟩, 4), (⟨"ZoneClock$Tape", "readNumber", "(II)I"⟩, 4), (⟨"ZoneClock$Tape", "readDigits", "()I"⟩, 4), (⟨"ZoneClock$Tape", "readBlanks", "()V"⟩, 4), (⟨"ZoneClock$Tape", "readRule", "(LZoneClock$Rule;)V"⟩, 4), (⟨"ZoneClock$Rule", "momentIn", "(I)J"⟩, 4), (⟨"ZoneClockModel", "readZone", "(I)V"⟩, 15), (⟨"ZoneClockModel", "peek", "()I"⟩, 15), (⟨"ZoneClockModel", "bad", "(I)V"⟩, 15), (⟨"ZoneClockModel", "ranged", "(II)I"⟩, 15), (⟨"ZoneClockModel", "blanks", "()V"⟩, 15), (⟨"ZoneClockModel", "rule", "(I)V"⟩, 15)]
theorem lw_r1 : ∀ q ∈ lw_privs_1, lw_okq q := List.forall_mem_cons.mpr ⟨lw_p0, List.forall_mem_cons.mpr ⟨lw_p1, List.forall_mem_cons.mpr ⟨lw_p2, List.forall_mem_cons.mpr ⟨lw_p3, List.forall_mem_cons.mpr ⟨lw_p4, List.forall_mem_cons.mpr ⟨lw_p5, List.forall_mem_cons.mpr ⟨lw_p6, List.forall_mem_cons.mpr ⟨lw_p7, List.forall_mem_cons.mpr ⟨lw_p8, List.forall_mem_cons.mpr ⟨lw_p9, List.forall_mem_cons.mpr ⟨lw_p10, List.forall_mem_cons.mpr ⟨lw_p11, List.forall_mem_cons.mpr ⟨lw_p12, List.forall_mem_cons.mpr ⟨lw_p13, List.forall_mem_cons.mpr ⟨lw_p14, List.forall_mem_cons.mpr ⟨lw_p15, fun _ h => absurd h List.not_mem_nil⟩⟩⟩⟩⟩⟩⟩⟩⟩⟩⟩⟩⟩⟩⟩⟩
theorem lw_p16 : lw_okq (⟨"ZoneClockModel", "expect", "(I)V"⟩, 15) := ⟨⟨by decide +kernel, by decide +kernel⟩, List.mem_of_getElem? (i := 447) (by decide +kernel), List.mem_of_getElem? (i := 545) (by decide +kernel), List.mem_of_getElem? (i := 546) (by decide +kernel)⟩
theorem lw_p17 : lw_okq (⟨"ZoneClockModel", "ruleDay", "(II)I"⟩, 15) := ⟨⟨by decide +kernel, by decide +kernel⟩, List.mem_of_getElem? (i := 447) (by decide +kernel), List.mem_of_getElem? (i := 549) (by decide +kernel), List.mem_of_getElem? (i := 550) (by decide +kernel)⟩
theorem lw_p18 : lw_okq (⟨"ZoneClockModel", "event", "(IJZ)V"⟩, 15) := ⟨⟨by decide +kernel, by decide +kernel⟩, List.mem_of_getElem? (i := 447) (by decide +kernel), List.mem_of_getElem? (i := 568) (by decide +kernel), List.mem_of_getElem? (i := 569) (by decide +kernel)⟩
theorem lw_p19 : lw_okq (⟨"ZoneClockModel", "out", "(IJ)Z"⟩, 15) := ⟨⟨by decide +kernel, by decide +kernel⟩, List.mem_of_getElem? (i := 447) (by decide +kernel), List.mem_of_getElem? (i := 576) (by decide +kernel), List.mem_of_getElem? (i := 577) (by decide +kernel)⟩
theorem lw_p20 : lw_okq (⟨"ZoneClockModel", "fail", "(I)I"⟩, 15) := ⟨⟨by decide +kernel, by decide +kernel⟩, List.mem_of_getElem? (i := 447) (by decide +kernel), List.mem_of_getElem? (i := 581) (by decide +kernel), List.mem_of_getElem? (i := 582) (by decide +kernel)⟩
theorem lw_p21 : lw_okq (⟨"ZoneClockModel", "localAt", "(IJ)J"⟩, 15) := ⟨⟨by decide +kernel, by decide +kernel⟩, List.mem_of_getElem? (i := 447) (by decide +kernel), List.mem_of_getElem? (i := 585) (by decide +kernel), List.mem_of_getElem? (i := 586) (by decide +kernel)⟩
theorem lw_p22 : lw_okq (⟨"ZoneClockModel", "passed", "(IJ)I"⟩, 15) := ⟨⟨by decide +kernel, by decide +kernel⟩, List.mem_of_getElem? (i := 447) (by decide +kernel), List.mem_of_getElem? (i := 589) (by decide +kernel), List.mem_of_getElem? (i := 590) (by decide +kernel)⟩
theorem lw_p23 : lw_okq (⟨"ZoneClockModel", "minutes", "(II)I"⟩, 15) := ⟨⟨by decide +kernel, by decide +kernel⟩, List.mem_of_getElem? (i := 447) (by decide +kernel), List.mem_of_getElem? (i := 593) (by decide +kernel), List.mem_of_getElem? (i := 594) (by decide +kernel)⟩
theorem lw_p24 : lw_okq (⟨"ZoneClockModel", "find", "(IJ)I"⟩, 15) := ⟨⟨by decide +kernel, by decide +kernel⟩, List.mem_of_getElem? (i := 447) (by decide +kernel), List.mem_of_getElem? (i := 601) (by decide +kernel), List.mem_of_getElem? (i := 602) (by decide +kernel)⟩
theorem lw_p25 : lw_okq (⟨"ZoneClockModel", "date", "(I)V"⟩, 15) := ⟨⟨by decide +kernel, by decide +kernel⟩, List.mem_of_getElem? (i := 447) (by decide +kernel), List.mem_of_getElem? (i := 623) (by decide +kernel), List.mem_of_getElem? (i := 624) (by decide +kernel)⟩
theorem lw_p26 : lw_okq (⟨"ZoneClockModel", "summer", "(II)Z"⟩, 15) := ⟨⟨by decide +kernel, by decide +kernel⟩, List.mem_of_getElem? (i := 447) (by decide +kernel), List.mem_of_getElem? (i := 628) (by decide +kernel), List.mem_of_getElem? (i := 629) (by decide +kernel)⟩
def lw_privs_2 : List (MethodName × Nat) := [(⟨"ZoneClockModel", "expect", "(I)V"⟩, 15), (⟨"ZoneClockModel", "ruleDay", "(II)I"⟩, 15), (⟨"ZoneClockModel", "event", "(IJZ)V"⟩, 15), (⟨"ZoneClockModel", "out", "(IJ)Z"⟩, 15), (⟨"ZoneClockModel", "fail", "(I)I"⟩, 15), (⟨"ZoneClockModel", "localAt", "(IJ)J"⟩, 15), (⟨"ZoneClockModel", "passed", "(IJ)I"⟩, 15), (⟨"ZoneClockModel", "minutes", "(II)I"⟩, 15), (⟨"ZoneClockModel", "find", "(IJ)I"⟩, 15), (⟨"ZoneClockModel", "date", "(I)V"⟩, 15), (⟨"ZoneClockModel", "summer", "(II)Z"⟩, 15)]
theorem lw_r2 : ∀ q ∈ lw_privs_2, lw_okq q := List.forall_mem_cons.mpr ⟨lw_p16, List.forall_mem_cons.mpr ⟨lw_p17, List.forall_mem_cons.mpr ⟨lw_p18, List.forall_mem_cons.mpr ⟨lw_p19, List.forall_mem_cons.mpr ⟨lw_p20, List.forall_mem_cons.mpr ⟨lw_p21, List.forall_mem_cons.mpr ⟨lw_p22, List.forall_mem_cons.mpr ⟨lw_p23, List.forall_mem_cons.mpr ⟨lw_p24, List.forall_mem_cons.mpr ⟨lw_p25, List.forall_mem_cons.mpr ⟨lw_p26, fun _ h => absurd h List.not_mem_nil⟩⟩⟩⟩⟩⟩⟩⟩⟩⟩⟩
def lw_privs : List (MethodName × Nat) := lw_privs_1 ++ (lw_privs_2)
def lw_tbl : List Cond := k2_sels lw_privs ++ tables_1
theorem lw_privs_ok : ∀ q ∈ lw_privs, lw_okq q := by
  show ∀ q ∈ lw_privs_1 ++ (lw_privs_2), lw_okq q
  exact List.forall_mem_append.mpr ⟨lw_r1, lw_r2⟩
end
section
/-! The claim's words at a state, as they stay from state to state. -/
def tk_good (w : Cond) : Bool := (w.onTables && (w.keeps || w.faceAtom || w.castAtom)) || (match w with
  | .arrayClass _ => true
  | .fieldLinkNest _ _ _ _ _ _ => true
  | .methodLinkNest _ _ _ _ => true
  | _ => false)
theorem tk_word {s U : State} (hW : s.WarmedH U.vm) : ∀ (w : Cond), tk_good w = true → (∀ a : Array Value, w.before a s = true) → ∀ a : Array Value, w.before a U = true := by
  intro w hg h a
  unfold tk_good at hg
  rw [Bool.or_eq_true] at hg
  rcases hg with hg | hg
  · rw [Bool.and_eq_true, Bool.or_eq_true, Bool.or_eq_true] at hg
    obtain ⟨ht, (hg | hg) | hg⟩ := hg
    · exact word_at hW (Or.inl (by rw [ht, hg]; rfl)) (h #[])
    · have h1 := Cond.faceAtom_setVm (args := #[]) hW.alike w hg (h #[])
      rw [Cond.onTables_vm (A' := a) (U' := U) U.vm w ht, State.setVm_self] at h1
      exact h1
    · have h1 := Cond.castAtom_setVm (args := #[]) hW.alike w hg (h #[])
      rw [Cond.onTables_vm (A' := a) (U' := U) U.vm w ht, State.setVm_self] at h1
      exact h1
  · cases w with
    | arrayClass ty => exact word_at hW (Or.inr ⟨_, rfl⟩) (h #[])
    | fieldLinkNest o i r n d t => exact va_Nw.use rfl (va_Nw.warmF hW (va_Nw.of rfl (h #[])))
    | methodLinkNest o i y t => exact va_Nw.use rfl (va_Nw.warmM hW (va_Nw.of rfl (h #[])))
    | _ => exact (Bool.false_ne_true hg).elim
def tbg : List Cond := lw_tbl.filter tk_good
def tk (U : State) : Prop := ∀ w ∈ tbg, ∀ a : Array Value, w.before a U = true
theorem tk_warm {s U : State} (hW : s.WarmedH U.vm) (h : tk s) : tk U := fun w hw a => tk_word hW w (List.mem_filter.mp hw).2 (h w hw) a
theorem tb_mem {w : Cond} {N : Nat} (h : tables_1[N]? = some w) (hg : tk_good w = true) : w ∈ tbg := List.mem_filter.mpr ⟨List.mem_append_right _ (List.mem_of_getElem? h), hg⟩
theorem tb_sel {w : Cond} {N : Nat} (h : (k2_sels lw_privs)[N]? = some w) (hg : tk_good w = true) : w ∈ tbg := List.mem_filter.mpr ⟨List.mem_append_left _ (List.mem_of_getElem? h), hg⟩
theorem tk_of {s : State} (h : ∀ w ∈ lw_tbl, ∀ a : Array Value, w.before a s = true) : tk s := fun w hw a => h w (List.mem_filter.mp hw).1 a
end
section
/-! Names: classes, their fields by their slots, methods and their codes. By program (wip/whole/names.py) out of the claim's own text. -/
def R_Clk : String := "ZoneClock"
def R_Cal : String := "ZoneClock$Calendar"
def R_Rule : String := "ZoneClock$Rule"
def R_Tape : String := "ZoneClock$Tape"
def R_Zone : String := "ZoneClock$Zone"
def R_Ref : String := "ZoneClockModel"
def R_Law : String := "ZoneClockLaw"
def R_Math : String := "java/lang/Math"
def T_Rule : u_T := fun k => match k with
  | 0 => ("ZoneClock$Rule", "month", "I", false)
  | 1 => ("ZoneClock$Rule", "week", "I", false)
  | 2 => ("ZoneClock$Rule", "weekday", "I", false)
  | _ => ("ZoneClock$Rule", "minute", "I", false)
def ty_Rule : Nat → FieldType := fun k => match k with
  | 0 => .int
  | 1 => .int
  | 2 => .int
  | _ => .int
theorem nm_Rule : ∀ a, a < 4 → ∀ b, b < 4 → a ≠ b → (T_Rule a).2.1 ≠ (T_Rule b).2.1 := by decide +kernel
theorem ok_Rule : ∀ k, k < 4 → parseFieldDescriptor (T_Rule k).2.2.1 = some (ty_Rule k) := by decide +kernel
theorem in_Rule : ∀ w ∈ u_ws R_Rule T_Rule 4, w ∈ tbg := by decide +kernel
def T_Tape : u_T := fun k => match k with
  | 0 => ("ZoneClock$Tape", "bytes", "[B", true)
  | 1 => ("ZoneClock$Tape", "length", "I", false)
  | 2 => ("ZoneClock$Tape", "position", "I", false)
  | _ => ("ZoneClock$Tape", "broken", "Z", false)
def ty_Tape : Nat → FieldType := fun k => match k with
  | 0 => .array .byte
  | 1 => .int
  | 2 => .int
  | _ => .boolean
theorem nm_Tape : ∀ a, a < 4 → ∀ b, b < 4 → a ≠ b → (T_Tape a).2.1 ≠ (T_Tape b).2.1 := by decide +kernel
theorem ok_Tape : ∀ k, k < 4 → parseFieldDescriptor (T_Tape k).2.2.1 = some (ty_Tape k) := by decide +kernel
theorem in_Tape : ∀ w ∈ u_ws R_Tape T_Tape 4, w ∈ tbg := by decide +kernel
def T_Zone : u_T := fun k => match k with
  | 0 => ("ZoneClock$Zone", "offset", "I", false)
  | 1 => ("ZoneClock$Zone", "save", "I", false)
  | 2 => ("ZoneClock$Zone", "begin", "LZoneClock$Rule;", true)
  | _ => ("ZoneClock$Zone", "end", "LZoneClock$Rule;", true)
def ty_Zone : Nat → FieldType := fun k => match k with
  | 0 => .int
  | 1 => .int
  | 2 => .object "ZoneClock$Rule"
  | _ => .object "ZoneClock$Rule"
theorem nm_Zone : ∀ a, a < 4 → ∀ b, b < 4 → a ≠ b → (T_Zone a).2.1 ≠ (T_Zone b).2.1 := by decide +kernel
theorem ok_Zone : ∀ k, k < 4 → parseFieldDescriptor (T_Zone k).2.2.1 = some (ty_Zone k) := by decide +kernel
theorem in_Zone : ∀ w ∈ u_ws R_Zone T_Zone 4, w ∈ tbg := by decide +kernel
def T_Clk : u_T := fun k => match k with
  | 0 => ("ZoneClock", "tape", "LZoneClock$Tape;", true)
  | 1 => ("ZoneClock", "draft", "LZoneClock$Zone;", true)
  | 2 => ("ZoneClock", "zones", "[LZoneClock$Zone;", true)
  | _ => ("ZoneClock", "brokenPlace", "I", false)
def ty_Clk : Nat → FieldType := fun k => match k with
  | 0 => .object "ZoneClock$Tape"
  | 1 => .object "ZoneClock$Zone"
  | 2 => .array (.object "ZoneClock$Zone")
  | _ => .int
theorem nm_Clk : ∀ a, a < 4 → ∀ b, b < 4 → a ≠ b → (T_Clk a).2.1 ≠ (T_Clk b).2.1 := by decide +kernel
theorem ok_Clk : ∀ k, k < 4 → parseFieldDescriptor (T_Clk k).2.2.1 = some (ty_Clk k) := by decide +kernel
theorem in_Clk : ∀ w ∈ u_ws R_Clk T_Clk 4, w ∈ tbg := by decide +kernel
def T_Ref : u_T := fun k => match k with
  | 0 => ("ZoneClockModel", "failed", "I", false)
  | 1 => ("ZoneClockModel", "tape", "[B", true)
  | 2 => ("ZoneClockModel", "taped", "I", false)
  | 3 => ("ZoneClockModel", "place", "I", false)
  | 4 => ("ZoneClockModel", "year", "I", false)
  | 5 => ("ZoneClockModel", "month", "I", false)
  | 6 => ("ZoneClockModel", "day", "I", false)
  | 7 => ("ZoneClockModel", "at", "I", false)
  | 8 => ("ZoneClockModel", "offsets", "[I", true)
  | 9 => ("ZoneClockModel", "saves", "[I", true)
  | 10 => ("ZoneClockModel", "events", "[[J", true)
  | 11 => ("ZoneClockModel", "begins", "[[Z", true)
  | 12 => ("ZoneClockModel", "eventCounts", "[I", true)
  | 13 => ("ZoneClockModel", "rule", "[I", true)
  | _ => ("ZoneClockModel", "found", "[J", true)
def ty_Ref : Nat → FieldType := fun k => match k with
  | 0 => .int
  | 1 => .array .byte
  | 2 => .int
  | 3 => .int
  | 4 => .int
  | 5 => .int
  | 6 => .int
  | 7 => .int
  | 8 => .array .int
  | 9 => .array .int
  | 10 => .array (.array .long)
  | 11 => .array (.array .boolean)
  | 12 => .array .int
  | 13 => .array .int
  | _ => .array .long
theorem nm_Ref : ∀ a, a < 15 → ∀ b, b < 15 → a ≠ b → (T_Ref a).2.1 ≠ (T_Ref b).2.1 := by decide +kernel
theorem ok_Ref : ∀ k, k < 15 → parseFieldDescriptor (T_Ref k).2.2.1 = some (ty_Ref k) := by decide +kernel
theorem in_Ref : ∀ w ∈ u_ws R_Ref T_Ref 15, w ∈ tbg := by decide +kernel
/-- the classes whose objects the worlds hold: 0 Rule, 1 Tape, 2 Zone, 3 ZoneClock, 4 ZoneClockModel -/
abbrev vwCl : List vw_C := [(R_Rule, T_Rule, 4), (R_Tape, T_Tape, 4), (R_Zone, T_Zone, 4), (R_Clk, T_Clk, 4), (R_Ref, T_Ref, 15)]
abbrev c_Clk_init : ByteArray := prog_1_method_1_code
def y_Clk_init : MethodName := ⟨R_Clk, "<init>", "()V"⟩
abbrev c_Tape_init : ByteArray := prog_4_method_1_code
def y_Tape_init : MethodName := ⟨R_Tape, "<init>", "()V"⟩
abbrev c_Zone_init : ByteArray := prog_5_method_1_code
def y_Zone_init : MethodName := ⟨R_Zone, "<init>", "()V"⟩
abbrev c_Rule_init : ByteArray := prog_3_method_1_code
def y_Rule_init : MethodName := ⟨R_Rule, "<init>", "()V"⟩
abbrev c_Clk_place : ByteArray := prog_1_method_10_code
def y_Clk_place : MethodName := ⟨R_Clk, "place", "()I"⟩
abbrev c_Law_feed : ByteArray := method_3_code
def y_Law_feed : MethodName := ⟨R_Law, "feed", "(LZoneClock;IIIII[J)I"⟩
abbrev c_Clk_feed : ByteArray := prog_1_method_2_code
def y_Clk_feed : MethodName := ⟨R_Clk, "feed", "(IIIII)I"⟩
abbrev c_Tape_append : ByteArray := prog_4_method_2_code
def y_Tape_append : MethodName := ⟨R_Tape, "append", "(I)V"⟩
abbrev c_Law_end : ByteArray := method_4_code
def y_Law_end : MethodName := ⟨R_Law, "end", "(LZoneClock;I[J)I"⟩
abbrev c_Clk_end : ByteArray := prog_1_method_3_code
def y_Clk_end : MethodName := ⟨R_Clk, "end", "(I)I"⟩
abbrev c_Law_zone : ByteArray := method_5_code
def y_Law_zone : MethodName := ⟨R_Law, "zone", "(LZoneClock;I)I"⟩
abbrev c_Clk_zone : ByteArray := prog_1_method_4_code
def y_Clk_zone : MethodName := ⟨R_Clk, "zone", "(I)V"⟩
abbrev c_Clk_zoneAt : ByteArray := prog_1_method_11_code
def y_Clk_zoneAt : MethodName := ⟨R_Clk, "zoneAt", "(I)LZoneClock$Zone;"⟩
abbrev c_Tape_readZone : ByteArray := prog_4_method_3_code
def y_Tape_readZone : MethodName := ⟨R_Tape, "readZone", "(LZoneClock$Zone;)I"⟩
abbrev c_Tape_readOffset : ByteArray := prog_4_method_4_code
def y_Tape_readOffset : MethodName := ⟨R_Tape, "readOffset", "()I"⟩
abbrev c_Tape_nextByte : ByteArray := prog_4_method_10_code
def y_Tape_nextByte : MethodName := ⟨R_Tape, "nextByte", "()I"⟩
abbrev c_Tape_readByte : ByteArray := prog_4_method_6_code
def y_Tape_readByte : MethodName := ⟨R_Tape, "readByte", "(C)V"⟩
abbrev c_Tape_readNumber : ByteArray := prog_4_method_8_code
def y_Tape_readNumber : MethodName := ⟨R_Tape, "readNumber", "(II)I"⟩
abbrev c_Tape_readDigits : ByteArray := prog_4_method_9_code
def y_Tape_readDigits : MethodName := ⟨R_Tape, "readDigits", "()I"⟩
abbrev c_Tape_isDigit : ByteArray := prog_4_method_11_code
def y_Tape_isDigit : MethodName := ⟨R_Tape, "isDigit", "(I)Z"⟩
abbrev c_Math_minI : ByteArray := prog_11_method_69_code
def y_Math_minI : MethodName := ⟨R_Math, "min", "(II)I"⟩
abbrev c_Tape_readBlanks : ByteArray := prog_4_method_7_code
def y_Tape_readBlanks : MethodName := ⟨R_Tape, "readBlanks", "()V"⟩
abbrev c_Tape_readRule : ByteArray := prog_4_method_5_code
def y_Tape_readRule : MethodName := ⟨R_Tape, "readRule", "(LZoneClock$Rule;)V"⟩
abbrev c_Zone_become : ByteArray := prog_5_method_2_code
def y_Zone_become : MethodName := ⟨R_Zone, "become", "(LZoneClock$Zone;)V"⟩
abbrev c_Rule_become : ByteArray := prog_3_method_2_code
def y_Rule_become : MethodName := ⟨R_Rule, "become", "(LZoneClock$Rule;)V"⟩
abbrev c_Law_local : ByteArray := method_6_code
def y_Law_local : MethodName := ⟨R_Law, "local", "(LZoneClock;IJ[J)I"⟩
abbrev c_Clk_local : ByteArray := prog_1_method_5_code
def y_Clk_local : MethodName := ⟨R_Clk, "local", "(IJ)J"⟩
abbrev c_Clk_checkTime : ByteArray := prog_1_method_12_code
def y_Clk_checkTime : MethodName := ⟨R_Clk, "checkTime", "(J)V"⟩
abbrev c_Zone_minutesAt : ByteArray := prog_5_method_4_code
def y_Zone_minutesAt : MethodName := ⟨R_Zone, "minutesAt", "(J)I"⟩
abbrev c_Zone_isSummer : ByteArray := prog_5_method_3_code
def y_Zone_isSummer : MethodName := ⟨R_Zone, "isSummer", "(J)Z"⟩
abbrev c_Rule_lastUpTo : ByteArray := prog_3_method_3_code
def y_Rule_lastUpTo : MethodName := ⟨R_Rule, "lastUpTo", "(JI)J"⟩
abbrev c_Cal_dayAt : ByteArray := prog_2_method_3_code
def y_Cal_dayAt : MethodName := ⟨R_Cal, "dayAt", "(J)I"⟩
abbrev c_Math_floorDivJ : ByteArray := prog_11_method_49_code
def y_Math_floorDivJ : MethodName := ⟨R_Math, "floorDiv", "(JJ)J"⟩
abbrev c_Cal_yearOf : ByteArray := prog_2_method_5_code
def y_Cal_yearOf : MethodName := ⟨R_Cal, "yearOf", "(I)I"⟩
abbrev c_Math_floorDivI : ByteArray := prog_11_method_47_code
def y_Math_floorDivI : MethodName := ⟨R_Math, "floorDiv", "(II)I"⟩
abbrev c_Cal_firstDayOf : ByteArray := prog_2_method_7_code
def y_Cal_firstDayOf : MethodName := ⟨R_Cal, "firstDayOf", "(II)I"⟩
abbrev c_Cal_lengthOf : ByteArray := prog_2_method_8_code
def y_Cal_lengthOf : MethodName := ⟨R_Cal, "lengthOf", "(II)I"⟩
abbrev c_Rule_momentIn : ByteArray := prog_3_method_5_code
def y_Rule_momentIn : MethodName := ⟨R_Rule, "momentIn", "(I)J"⟩
abbrev c_Cal_weekdayOf : ByteArray := prog_2_method_4_code
def y_Cal_weekdayOf : MethodName := ⟨R_Cal, "weekdayOf", "(I)I"⟩
abbrev c_Math_floorModI : ByteArray := prog_11_method_50_code
def y_Math_floorModI : MethodName := ⟨R_Math, "floorMod", "(II)I"⟩
abbrev c_Law_many : ByteArray := method_7_code
def y_Law_many : MethodName := ⟨R_Law, "many", "(LZoneClock;IJ[J)I"⟩
abbrev c_Clk_many : ByteArray := prog_1_method_6_code
def y_Clk_many : MethodName := ⟨R_Clk, "many", "(IJ)I"⟩
abbrev c_Zone_isReadInSummer : ByteArray := prog_5_method_8_code
def y_Zone_isReadInSummer : MethodName := ⟨R_Zone, "isReadInSummer", "(J)Z"⟩
abbrev c_Zone_fromSummerReading : ByteArray := prog_5_method_6_code
def y_Zone_fromSummerReading : MethodName := ⟨R_Zone, "fromSummerReading", "(J)J"⟩
abbrev c_Zone_isReadOutsideSummer : ByteArray := prog_5_method_7_code
def y_Zone_isReadOutsideSummer : MethodName := ⟨R_Zone, "isReadOutsideSummer", "(J)Z"⟩
abbrev c_Zone_fromPlainReading : ByteArray := prog_5_method_5_code
def y_Zone_fromPlainReading : MethodName := ⟨R_Zone, "fromPlainReading", "(J)J"⟩
abbrev c_Law_universal : ByteArray := method_8_code
def y_Law_universal : MethodName := ⟨R_Law, "universal", "(LZoneClock;IJZ[J)I"⟩
abbrev c_Clk_universal : ByteArray := prog_1_method_7_code
def y_Clk_universal : MethodName := ⟨R_Clk, "universal", "(IJZ)J"⟩
abbrev c_Law_change : ByteArray := method_9_code
def y_Law_change : MethodName := ⟨R_Law, "change", "(LZoneClock;IJZ[J)I"⟩
abbrev c_Clk_change : ByteArray := prog_1_method_8_code
def y_Clk_change : MethodName := ⟨R_Clk, "change", "(IJZ)J"⟩
abbrev c_Zone_lastChangeUpTo : ByteArray := prog_5_method_9_code
def y_Zone_lastChangeUpTo : MethodName := ⟨R_Zone, "lastChangeUpTo", "(J)J"⟩
abbrev c_Math_maxJ : ByteArray := prog_11_method_66_code
def y_Math_maxJ : MethodName := ⟨R_Math, "max", "(JJ)J"⟩
abbrev c_Zone_firstChangeBehind : ByteArray := prog_5_method_10_code
def y_Zone_firstChangeBehind : MethodName := ⟨R_Zone, "firstChangeBehind", "(J)J"⟩
abbrev c_Rule_firstBehind : ByteArray := prog_3_method_4_code
def y_Rule_firstBehind : MethodName := ⟨R_Rule, "firstBehind", "(JI)J"⟩
abbrev c_Math_maxI : ByteArray := prog_11_method_65_code
def y_Math_maxI : MethodName := ⟨R_Math, "max", "(II)I"⟩
abbrev c_Math_minJ : ByteArray := prog_11_method_70_code
def y_Math_minJ : MethodName := ⟨R_Math, "min", "(JJ)J"⟩
abbrev c_Law_field : ByteArray := method_10_code
def y_Law_field : MethodName := ⟨R_Law, "field", "(LZoneClock;IJI[J)I"⟩
abbrev c_Clk_field : ByteArray := prog_1_method_9_code
def y_Clk_field : MethodName := ⟨R_Clk, "field", "(IJI)I"⟩
abbrev c_Cal_partOf : ByteArray := prog_2_method_2_code
def y_Cal_partOf : MethodName := ⟨R_Cal, "partOf", "(JI)I"⟩
abbrev c_Math_floorModJ : ByteArray := prog_11_method_52_code
def y_Math_floorModJ : MethodName := ⟨R_Math, "floorMod", "(JJ)J"⟩
abbrev c_Cal_monthOf : ByteArray := prog_2_method_6_code
def y_Cal_monthOf : MethodName := ⟨R_Cal, "monthOf", "(II)I"⟩
abbrev c_Ref_init : ByteArray := prog_7_method_1_code
def y_Ref_init : MethodName := ⟨R_Ref, "<init>", "()V"⟩
abbrev c_Ref_thrown : ByteArray := prog_7_method_2_code
def y_Ref_thrown : MethodName := ⟨R_Ref, "thrown", "()I"⟩
abbrev c_Ref_zone : ByteArray := prog_7_method_18_code
def y_Ref_zone : MethodName := ⟨R_Ref, "zone", "(I)V"⟩
abbrev c_Ref_readZone : ByteArray := prog_7_method_19_code
def y_Ref_readZone : MethodName := ⟨R_Ref, "readZone", "(I)V"⟩
abbrev c_Ref_peek : ByteArray := prog_7_method_10_code
def y_Ref_peek : MethodName := ⟨R_Ref, "peek", "()I"⟩
abbrev c_Ref_bad : ByteArray := prog_7_method_9_code
def y_Ref_bad : MethodName := ⟨R_Ref, "bad", "(I)V"⟩
abbrev c_Ref_ranged : ByteArray := prog_7_method_14_code
def y_Ref_ranged : MethodName := ⟨R_Ref, "ranged", "(II)I"⟩
abbrev c_Ref_digit : ByteArray := prog_7_method_11_code
def y_Ref_digit : MethodName := ⟨R_Ref, "digit", "(I)Z"⟩
abbrev c_Ref_blanks : ByteArray := prog_7_method_13_code
def y_Ref_blanks : MethodName := ⟨R_Ref, "blanks", "()V"⟩
abbrev c_Ref_rule : ByteArray := prog_7_method_15_code
def y_Ref_rule : MethodName := ⟨R_Ref, "rule", "(I)V"⟩
abbrev c_Ref_expect : ByteArray := prog_7_method_12_code
def y_Ref_expect : MethodName := ⟨R_Ref, "expect", "(I)V"⟩
abbrev c_Ref_ruleDay : ByteArray := prog_7_method_16_code
def y_Ref_ruleDay : MethodName := ⟨R_Ref, "ruleDay", "(II)I"⟩
abbrev c_Ref_number : ByteArray := prog_7_method_6_code
def y_Ref_number : MethodName := ⟨R_Ref, "number", "(II)I"⟩
abbrev c_Ref_length : ByteArray := prog_7_method_5_code
def y_Ref_length : MethodName := ⟨R_Ref, "length", "(II)I"⟩
abbrev c_Ref_leap : ByteArray := prog_7_method_4_code
def y_Ref_leap : MethodName := ⟨R_Ref, "leap", "(I)Z"⟩
abbrev c_Ref_weekday : ByteArray := prog_7_method_8_code
def y_Ref_weekday : MethodName := ⟨R_Ref, "weekday", "(I)I"⟩
abbrev c_Ref_event : ByteArray := prog_7_method_17_code
def y_Ref_event : MethodName := ⟨R_Ref, "event", "(IJZ)V"⟩
abbrev c_Ref_local : ByteArray := prog_7_method_25_code
def y_Ref_local : MethodName := ⟨R_Ref, "local", "(IJ)J"⟩
abbrev c_Ref_out : ByteArray := prog_7_method_24_code
def y_Ref_out : MethodName := ⟨R_Ref, "out", "(IJ)Z"⟩
abbrev c_Ref_fail : ByteArray := prog_7_method_3_code
def y_Ref_fail : MethodName := ⟨R_Ref, "fail", "(I)I"⟩
abbrev c_Ref_localAt : ByteArray := prog_7_method_23_code
def y_Ref_localAt : MethodName := ⟨R_Ref, "localAt", "(IJ)J"⟩
abbrev c_Ref_passed : ByteArray := prog_7_method_20_code
def y_Ref_passed : MethodName := ⟨R_Ref, "passed", "(IJ)I"⟩
abbrev c_Ref_minutes : ByteArray := prog_7_method_21_code
def y_Ref_minutes : MethodName := ⟨R_Ref, "minutes", "(II)I"⟩
abbrev c_Ref_many : ByteArray := prog_7_method_27_code
def y_Ref_many : MethodName := ⟨R_Ref, "many", "(IJ)I"⟩
abbrev c_Ref_find : ByteArray := prog_7_method_26_code
def y_Ref_find : MethodName := ⟨R_Ref, "find", "(IJ)I"⟩
abbrev c_Ref_universal : ByteArray := prog_7_method_28_code
def y_Ref_universal : MethodName := ⟨R_Ref, "universal", "(IJZ)J"⟩
abbrev c_Ref_change : ByteArray := prog_7_method_29_code
def y_Ref_change : MethodName := ⟨R_Ref, "change", "(IJZ)J"⟩
abbrev c_Ref_field : ByteArray := prog_7_method_30_code
def y_Ref_field : MethodName := ⟨R_Ref, "field", "(IJI)I"⟩
abbrev c_Ref_date : ByteArray := prog_7_method_7_code
def y_Ref_date : MethodName := ⟨R_Ref, "date", "(I)V"⟩
abbrev c_Ref_summer : ByteArray := prog_7_method_22_code
def y_Ref_summer : MethodName := ⟨R_Ref, "summer", "(II)Z"⟩
abbrev c_Ref_place : ByteArray := prog_7_method_31_code
def y_Ref_place : MethodName := ⟨R_Ref, "place", "()I"⟩
abbrev c_Ref_feed : ByteArray := prog_7_method_32_code
def y_Ref_feed : MethodName := ⟨R_Ref, "feed", "(IIIII)I"⟩
abbrev c_Ref_end : ByteArray := prog_7_method_33_code
def y_Ref_end : MethodName := ⟨R_Ref, "end", "(I)I"⟩
abbrev c_Law_law : ByteArray := code
def y_Law_law : MethodName := ⟨R_Law, "law", "([I)Z"⟩
end
section
/-! Ints and longs by their mathematical values. -/
def iI (x : Int) : Int32 := Int32.ofInt x
def lL (x : Int) : Int64 := Int64.ofInt x
theorem iI_mn : Int32.minValue.toInt = -2147483648 := by decide
theorem iI_mx : Int32.maxValue.toInt = 2147483647 := by decide
theorem lL_mn : Int64.minValue.toInt = -9223372036854775808 := by decide
theorem lL_mx : Int64.maxValue.toInt = 9223372036854775807 := by decide
theorem iI_to {x : Int} (h1 : -2147483648 ≤ x) (h2 : x ≤ 2147483647) : (iI x).toInt = x := Int32.toInt_ofInt_of_le (by omega) (by omega)
theorem lL_to {x : Int} (h1 : -9223372036854775808 ≤ x) (h2 : x ≤ 9223372036854775807) : (lL x).toInt = x := Int64.toInt_ofInt_of_le (by omega) (by omega)
theorem iI_of (x : Int32) : iI x.toInt = x := Int32.ofInt_toInt x
theorem lL_of (x : Int64) : lL x.toInt = x := Int64.ofInt_toInt x
theorem iI_ge (x : Int32) : -2147483648 ≤ x.toInt := by have := x.le_toInt; omega
theorem iI_le2 (x : Int32) : x.toInt ≤ 2147483647 := by have := x.toInt_lt; omega
theorem lL_ge (x : Int64) : -9223372036854775808 ≤ x.toInt := by have := x.le_toInt; omega
theorem lL_le2 (x : Int64) : x.toInt ≤ 9223372036854775807 := by have := x.toInt_lt; omega
theorem iI_add (a b : Int) : iI a + iI b = iI (a + b) := (Int32.ofInt_add a b).symm
theorem iI_sub (a b : Int) : iI a - iI b = iI (a - b) := (Int32.ofInt_sub a b).symm
theorem iI_mul (a b : Int) : iI a * iI b = iI (a * b) := (Int32.ofInt_mul a b).symm
theorem iI_neg (a : Int) : -iI a = iI (-a) := (Int32.ofInt_neg a).symm
theorem lL_add (a b : Int) : lL a + lL b = lL (a + b) := (Int64.ofInt_add a b).symm
theorem lL_sub (a b : Int) : lL a - lL b = lL (a - b) := (Int64.ofInt_sub a b).symm
theorem lL_mul (a b : Int) : lL a * lL b = lL (a * b) := (Int64.ofInt_mul a b).symm
theorem lL_neg (a : Int) : -lL a = lL (-a) := (Int64.ofInt_neg a).symm
theorem iI_tdiv {a b : Int} (h1 : -2147483648 ≤ a) (h2 : a ≤ 2147483647) (h3 : -2147483648 ≤ b) (h4 : b ≤ 2147483647) : iI a / iI b = iI (a.tdiv b) :=
  (Int32.ofInt_tdiv (by rw [iI_mn]; exact h1) (by rw [iI_mx]; exact h2) (by rw [iI_mn]; exact h3) (by rw [iI_mx]; exact h4)).symm
theorem lL_tdiv {a b : Int} (h1 : -9223372036854775808 ≤ a) (h2 : a ≤ 9223372036854775807) (h3 : -9223372036854775808 ≤ b) (h4 : b ≤ 9223372036854775807) : lL a / lL b = lL (a.tdiv b) :=
  (Int64.ofInt_tdiv (by rw [lL_mn]; exact h1) (by rw [lL_mx]; exact h2) (by rw [lL_mn]; exact h3) (by rw [lL_mx]; exact h4)).symm
theorem iI_lt {a b : Int} (h1 : -2147483648 ≤ a) (h2 : a ≤ 2147483647) (h3 : -2147483648 ≤ b) (h4 : b ≤ 2147483647) : iI a < iI b ↔ a < b := by
  rw [Int32.lt_iff_toInt_lt, iI_to h1 h2, iI_to h3 h4]
theorem iI_le {a b : Int} (h1 : -2147483648 ≤ a) (h2 : a ≤ 2147483647) (h3 : -2147483648 ≤ b) (h4 : b ≤ 2147483647) : iI a ≤ iI b ↔ a ≤ b := by
  rw [Int32.le_iff_toInt_le, iI_to h1 h2, iI_to h3 h4]
theorem iI_eq {a b : Int} (h1 : -2147483648 ≤ a) (h2 : a ≤ 2147483647) (h3 : -2147483648 ≤ b) (h4 : b ≤ 2147483647) : iI a = iI b ↔ a = b := by
  rw [← Int32.toInt_inj, iI_to h1 h2, iI_to h3 h4]
theorem lL_lt {a b : Int} (h1 : -9223372036854775808 ≤ a) (h2 : a ≤ 9223372036854775807) (h3 : -9223372036854775808 ≤ b) (h4 : b ≤ 9223372036854775807) : lL a < lL b ↔ a < b := by
  rw [Int64.lt_iff_toInt_lt, lL_to h1 h2, lL_to h3 h4]
theorem lL_le {a b : Int} (h1 : -9223372036854775808 ≤ a) (h2 : a ≤ 9223372036854775807) (h3 : -9223372036854775808 ≤ b) (h4 : b ≤ 9223372036854775807) : lL a ≤ lL b ↔ a ≤ b := by
  rw [Int64.le_iff_toInt_le, lL_to h1 h2, lL_to h3 h4]
theorem lL_eq {a b : Int} (h1 : -9223372036854775808 ≤ a) (h2 : a ≤ 9223372036854775807) (h3 : -9223372036854775808 ≤ b) (h4 : b ≤ 9223372036854775807) : lL a = lL b ↔ a = b := by
  rw [← Int64.toInt_inj, lL_to h1 h2, lL_to h3 h4]
theorem iI_0 : (0 : Int32) = iI 0 := by decide
theorem iI_1 : (1 : Int32) = iI 1 := by decide
theorem iI_m1 : (-1 : Int32) = iI (-1) := by decide
theorem lL_0 : (0 : Int64) = lL 0 := by decide
theorem iI_ne0 {b : Int} (h1 : -2147483648 ≤ b) (h2 : b ≤ 2147483647) (h : b ≠ 0) : ¬ iI b = 0 := by
  rw [iI_0, iI_eq h1 h2 (by decide) (by decide)]; exact h
theorem lL_ne0 {b : Int} (h1 : -9223372036854775808 ≤ b) (h2 : b ≤ 9223372036854775807) (h : b ≠ 0) : ¬ lL b = 0 := by
  rw [lL_0, lL_eq h1 h2 (by decide) (by decide)]; exact h
theorem iI_l {a : Int} (h1 : -2147483648 ≤ a) (h2 : a ≤ 2147483647) : (iI a).toInt64 = lL a :=
  Int64.toInt_inj.1 (by rw [Int32.toInt_toInt64, iI_to h1 h2, lL_to (by omega) (by omega)])
theorem lL_i (a : Int) : (lL a).toInt32 = iI a := Int64.toInt32_ofInt
theorem iI_cl {a : Int} (h1 : 0 ≤ a) (h2 : a ≤ 2147483647) : (iI a).toNatClampNeg = a.toNat := by
  show (iI a).toInt.toNat = a.toNat
  rw [iI_to (by omega) h2]
theorem iI_in {a : Int} {n : Nat} (h1 : 0 ≤ a) (h2 : a < n) (hn : (n : Int) ≤ 2147483647) : vp_in (iI a) n := by
  rw [vp_in_iff, iI_to (by omega) (by omega)]; exact ⟨h1, h2⟩
theorem iI_n (n : Nat) : Int32.ofNat n = iI n := by
  exact Int32.ofInt_eq_ofNat.symm
end
section
/-! Rows on ints and longs that are told by their mathematical values. -/
section RI
variable {p : Program} {l : Launch} {e : Env} {R : Room} {s : State} {m : MethodId} {args : Array Value} {below : List Frame} {meth : Method} {c : Code} {H : Heap} {locs : List Loc} {cells slots : Nat} {Q : State → Prop}
variable {cc : ByteArray} {pc : Nat} {ls : Array Slot} {rest : List Value}
theorem ri_i {x y : Int} (h : x = y) (k : W p l e R s m args below meth c H locs cells slots Q (F0 m pc ls (.int (iI (y)) :: rest))) : W p l e R s m args below meth c H locs cells slots Q (F0 m pc ls (.int (iI (x)) :: rest)) := h ▸ k
theorem ri_l {x y : Int} (h : x = y) (k : W p l e R s m args below meth c H locs cells slots Q (F0 m pc ls (.long (lL (y)) :: rest))) : W p l e R s m args below meth c H locs cells slots Q (F0 m pc ls (.long (lL (x)) :: rest)) := h ▸ k
theorem ri_v {x y : Value} (h : x = y) (k : W p l e R s m args below meth c H locs cells slots Q (F0 m pc ls (y :: rest))) : W p l e R s m args below meth c H locs cells slots Q (F0 m pc ls (x :: rest)) := h ▸ k
theorem ri_iadd (hexec : p.tables.exec = Jvm.exec) (hb : c.code = cc) {a b : Int} (hdg : decode cc pc = .ok (.iadd, 1))
    (k : W p l e R s m args below meth c H locs cells slots Q (F0 m (pc + 1) ls (.int (iI (a + b)) :: rest))) : W p l e R s m args below meth c H locs cells slots Q (F0 m pc ls (.int (iI (b)) :: .int (iI (a)) :: rest)) := lv_iadd hexec hb hdg (by rw [iI_add]; exact k)
theorem ri_isub (hexec : p.tables.exec = Jvm.exec) (hb : c.code = cc) {a b : Int} (hdg : decode cc pc = .ok (.isub, 1))
    (k : W p l e R s m args below meth c H locs cells slots Q (F0 m (pc + 1) ls (.int (iI (a - b)) :: rest))) : W p l e R s m args below meth c H locs cells slots Q (F0 m pc ls (.int (iI (b)) :: .int (iI (a)) :: rest)) := lv_isub hexec hb hdg (by rw [iI_sub]; exact k)
theorem ri_imul (hexec : p.tables.exec = Jvm.exec) (hb : c.code = cc) {a b : Int} (hdg : decode cc pc = .ok (.imul, 1))
    (k : W p l e R s m args below meth c H locs cells slots Q (F0 m (pc + 1) ls (.int (iI (a * b)) :: rest))) : W p l e R s m args below meth c H locs cells slots Q (F0 m pc ls (.int (iI (b)) :: .int (iI (a)) :: rest)) := lv_imul hexec hb hdg (by rw [iI_mul]; exact k)
theorem ri_ladd (hexec : p.tables.exec = Jvm.exec) (hb : c.code = cc) {a b : Int} (hdg : decode cc pc = .ok (.ladd, 1))
    (k : W p l e R s m args below meth c H locs cells slots Q (F0 m (pc + 1) ls (.long (lL (a + b)) :: rest))) : W p l e R s m args below meth c H locs cells slots Q (F0 m pc ls (.long (lL (b)) :: .long (lL (a)) :: rest)) := lv_ladd hexec hb hdg (by rw [lL_add]; exact k)
theorem ri_lsub (hexec : p.tables.exec = Jvm.exec) (hb : c.code = cc) {a b : Int} (hdg : decode cc pc = .ok (.lsub, 1))
    (k : W p l e R s m args below meth c H locs cells slots Q (F0 m (pc + 1) ls (.long (lL (a - b)) :: rest))) : W p l e R s m args below meth c H locs cells slots Q (F0 m pc ls (.long (lL (b)) :: .long (lL (a)) :: rest)) := lv_lsub hexec hb hdg (by rw [lL_sub]; exact k)
theorem ri_lmul (hexec : p.tables.exec = Jvm.exec) (hb : c.code = cc) {a b : Int} (hdg : decode cc pc = .ok (.lmul, 1))
    (k : W p l e R s m args below meth c H locs cells slots Q (F0 m (pc + 1) ls (.long (lL (a * b)) :: rest))) : W p l e R s m args below meth c H locs cells slots Q (F0 m pc ls (.long (lL (b)) :: .long (lL (a)) :: rest)) := lv_lmul hexec hb hdg (by rw [lL_mul]; exact k)
theorem ri_ineg (hexec : p.tables.exec = Jvm.exec) (hb : c.code = cc) {a : Int} (hdg : decode cc pc = .ok (.ineg, 1))
    (k : W p l e R s m args below meth c H locs cells slots Q (F0 m (pc + 1) ls (.int (iI (-a)) :: rest))) : W p l e R s m args below meth c H locs cells slots Q (F0 m pc ls (.int (iI (a)) :: rest)) := lv_ineg hexec hb hdg (by rw [iI_neg]; exact k)
theorem ri_idivT (hexec : p.tables.exec = Jvm.exec) (hb : c.code = cc) {a b : Int} (hdg : decode cc pc = .ok (.idiv, 1))
    (k : W p l e R s m args below meth c H locs cells slots Q (F0 m (pc + 1) ls (.int (iI (a.tdiv b)) :: rest))) (hne : b ≠ 0 := by omega) (h1 : -2147483648 ≤ a := by omega) (h2 : a ≤ 2147483647 := by omega) (h3 : -2147483648 ≤ b := by omega) (h4 : b ≤ 2147483647 := by omega) : W p l e R s m args below meth c H locs cells slots Q (F0 m pc ls (.int (iI (b)) :: .int (iI (a)) :: rest)) := lv_idiv hexec hb hdg (iI_ne0 h3 h4 hne) (by rw [iI_tdiv h1 h2 h3 h4]; exact k)
theorem ri_iremT (hexec : p.tables.exec = Jvm.exec) (hb : c.code = cc) {a b : Int} (hdg : decode cc pc = .ok (.irem, 1))
    (k : W p l e R s m args below meth c H locs cells slots Q (F0 m (pc + 1) ls (.int (iI (a.tmod b)) :: rest))) (hne : b ≠ 0 := by omega) (h1 : -2147483648 ≤ a := by omega) (h2 : a ≤ 2147483647 := by omega) (h3 : -2147483648 ≤ b := by omega) (h4 : b ≤ 2147483647 := by omega) : W p l e R s m args below meth c H locs cells slots Q (F0 m pc ls (.int (iI (b)) :: .int (iI (a)) :: rest)) := lv_irem hexec hb hdg (iI_ne0 h3 h4 hne) (by rw [iI_tdiv h1 h2 h3 h4, iI_mul, iI_sub, show a - a.tdiv b * b = a.tmod b from by rw [Int.tmod_def, Int.mul_comm]]; exact k)
theorem ri_ldivT (hexec : p.tables.exec = Jvm.exec) (hb : c.code = cc) {a b : Int} (hdg : decode cc pc = .ok (.ldiv, 1))
    (k : W p l e R s m args below meth c H locs cells slots Q (F0 m (pc + 1) ls (.long (lL (a.tdiv b)) :: rest))) (hne : b ≠ 0 := by omega) (h1 : -9223372036854775808 ≤ a := by omega) (h2 : a ≤ 9223372036854775807 := by omega) (h3 : -9223372036854775808 ≤ b := by omega) (h4 : b ≤ 9223372036854775807 := by omega) : W p l e R s m args below meth c H locs cells slots Q (F0 m pc ls (.long (lL (b)) :: .long (lL (a)) :: rest)) := lv_ldiv hexec hb hdg (lL_ne0 h3 h4 hne) (by rw [lL_tdiv h1 h2 h3 h4]; exact k)
theorem ri_lremT (hexec : p.tables.exec = Jvm.exec) (hb : c.code = cc) {a b : Int} (hdg : decode cc pc = .ok (.lrem, 1))
    (k : W p l e R s m args below meth c H locs cells slots Q (F0 m (pc + 1) ls (.long (lL (a.tmod b)) :: rest))) (hne : b ≠ 0 := by omega) (h1 : -9223372036854775808 ≤ a := by omega) (h2 : a ≤ 9223372036854775807 := by omega) (h3 : -9223372036854775808 ≤ b := by omega) (h4 : b ≤ 9223372036854775807 := by omega) : W p l e R s m args below meth c H locs cells slots Q (F0 m pc ls (.long (lL (b)) :: .long (lL (a)) :: rest)) := lv_lrem hexec hb hdg (lL_ne0 h3 h4 hne) (by rw [lL_tdiv h1 h2 h3 h4, lL_mul, lL_sub, show a - a.tdiv b * b = a.tmod b from by rw [Int.tmod_def, Int.mul_comm]]; exact k)
theorem ri_idiv (hexec : p.tables.exec = Jvm.exec) (hb : c.code = cc) {a b : Int} (hdg : decode cc pc = .ok (.idiv, 1))
    (k : W p l e R s m args below meth c H locs cells slots Q (F0 m (pc + 1) ls (.int (iI (a / b)) :: rest))) (h1 : 0 ≤ a := by omega) (h2 : a ≤ 2147483647 := by omega) (h3 : 0 < b := by omega) (h4 : b ≤ 2147483647 := by omega) : W p l e R s m args below meth c H locs cells slots Q (F0 m pc ls (.int (iI (b)) :: .int (iI (a)) :: rest)) := ri_idivT hexec hb hdg (by rw [Int.tdiv_eq_ediv_of_nonneg h1]; exact k) (by omega) (by omega) (by omega) (by omega) (by omega)
theorem ri_irem (hexec : p.tables.exec = Jvm.exec) (hb : c.code = cc) {a b : Int} (hdg : decode cc pc = .ok (.irem, 1))
    (k : W p l e R s m args below meth c H locs cells slots Q (F0 m (pc + 1) ls (.int (iI (a % b)) :: rest))) (h1 : 0 ≤ a := by omega) (h2 : a ≤ 2147483647 := by omega) (h3 : 0 < b := by omega) (h4 : b ≤ 2147483647 := by omega) : W p l e R s m args below meth c H locs cells slots Q (F0 m pc ls (.int (iI (b)) :: .int (iI (a)) :: rest)) := ri_iremT hexec hb hdg (by rw [Int.tmod_eq_emod_of_nonneg h1]; exact k) (by omega) (by omega) (by omega) (by omega) (by omega)
theorem ri_ldiv (hexec : p.tables.exec = Jvm.exec) (hb : c.code = cc) {a b : Int} (hdg : decode cc pc = .ok (.ldiv, 1))
    (k : W p l e R s m args below meth c H locs cells slots Q (F0 m (pc + 1) ls (.long (lL (a / b)) :: rest))) (h1 : 0 ≤ a := by omega) (h2 : a ≤ 9223372036854775807 := by omega) (h3 : 0 < b := by omega) (h4 : b ≤ 9223372036854775807 := by omega) : W p l e R s m args below meth c H locs cells slots Q (F0 m pc ls (.long (lL (b)) :: .long (lL (a)) :: rest)) := ri_ldivT hexec hb hdg (by rw [Int.tdiv_eq_ediv_of_nonneg h1]; exact k) (by omega) (by omega) (by omega) (by omega) (by omega)
theorem ri_lrem (hexec : p.tables.exec = Jvm.exec) (hb : c.code = cc) {a b : Int} (hdg : decode cc pc = .ok (.lrem, 1))
    (k : W p l e R s m args below meth c H locs cells slots Q (F0 m (pc + 1) ls (.long (lL (a % b)) :: rest))) (h1 : 0 ≤ a := by omega) (h2 : a ≤ 9223372036854775807 := by omega) (h3 : 0 < b := by omega) (h4 : b ≤ 9223372036854775807 := by omega) : W p l e R s m args below meth c H locs cells slots Q (F0 m pc ls (.long (lL (b)) :: .long (lL (a)) :: rest)) := ri_lremT hexec hb hdg (by rw [Int.tmod_eq_emod_of_nonneg h1]; exact k) (by omega) (by omega) (by omega) (by omega) (by omega)
theorem ri_i2l (hexec : p.tables.exec = Jvm.exec) (hb : c.code = cc) {a : Int} (hdg : decode cc pc = .ok (.i2l, 1))
    (k : W p l e R s m args below meth c H locs cells slots Q (F0 m (pc + 1) ls (.long (lL (a)) :: rest))) (h1 : -2147483648 ≤ a := by omega) (h2 : a ≤ 2147483647 := by omega) : W p l e R s m args below meth c H locs cells slots Q (F0 m pc ls (.int (iI (a)) :: rest)) := lv_i2l hexec hb hdg (iI_l h1 h2) k
theorem ri_l2i (hexec : p.tables.exec = Jvm.exec) (hb : c.code = cc) {a : Int} (hdg : decode cc pc = .ok (.l2i, 1))
    (k : W p l e R s m args below meth c H locs cells slots Q (F0 m (pc + 1) ls (.int (iI (a)) :: rest))) : W p l e R s m args below meth c H locs cells slots Q (F0 m pc ls (.long (lL (a)) :: rest)) := lv_l2i hexec hb hdg (lL_i a) k
theorem ri_icmp_eq (hexec : p.tables.exec = Jvm.exec) (hb : c.code = cc) {a b : Int} {off : Int} {tgt : Nat} (hdg : decode cc pc = .ok (.if_icmp .eq off, 3)) (ht : (pc : Int) + off = (tgt : Int))
    (kt : a = b → W p l e R s m args below meth c H locs cells slots Q (F0 m tgt ls (rest))) (kf : a ≠ b → W p l e R s m args below meth c H locs cells slots Q (F0 m (pc + 3) ls (rest))) (h1 : -2147483648 ≤ a := by omega) (h2 : a ≤ 2147483647 := by omega) (h3 : -2147483648 ≤ b := by omega) (h4 : b ≤ 2147483647 := by omega) : W p l e R s m args below meth c H locs cells slots Q (F0 m pc ls (.int (iI (b)) :: .int (iI (a)) :: rest)) := lv_icmp_eq hexec hb hdg ht (fun h => kt ((iI_eq h1 h2 h3 h4).mp h)) (fun h => kf (fun q => h (by rw [q])))
theorem ri_icmp_ne (hexec : p.tables.exec = Jvm.exec) (hb : c.code = cc) {a b : Int} {off : Int} {tgt : Nat} (hdg : decode cc pc = .ok (.if_icmp .ne off, 3)) (ht : (pc : Int) + off = (tgt : Int))
    (kt : a ≠ b → W p l e R s m args below meth c H locs cells slots Q (F0 m tgt ls (rest))) (kf : a = b → W p l e R s m args below meth c H locs cells slots Q (F0 m (pc + 3) ls (rest))) (h1 : -2147483648 ≤ a := by omega) (h2 : a ≤ 2147483647 := by omega) (h3 : -2147483648 ≤ b := by omega) (h4 : b ≤ 2147483647 := by omega) : W p l e R s m args below meth c H locs cells slots Q (F0 m pc ls (.int (iI (b)) :: .int (iI (a)) :: rest)) := lv_icmp_ne hexec hb hdg ht (fun h => kt (fun q => h (by rw [q]))) (fun h => kf ((iI_eq h1 h2 h3 h4).mp h))
theorem ri_icmp_lt (hexec : p.tables.exec = Jvm.exec) (hb : c.code = cc) {a b : Int} {off : Int} {tgt : Nat} (hdg : decode cc pc = .ok (.if_icmp .lt off, 3)) (ht : (pc : Int) + off = (tgt : Int))
    (kt : a < b → W p l e R s m args below meth c H locs cells slots Q (F0 m tgt ls (rest))) (kf : b ≤ a → W p l e R s m args below meth c H locs cells slots Q (F0 m (pc + 3) ls (rest))) (h1 : -2147483648 ≤ a := by omega) (h2 : a ≤ 2147483647 := by omega) (h3 : -2147483648 ≤ b := by omega) (h4 : b ≤ 2147483647 := by omega) : W p l e R s m args below meth c H locs cells slots Q (F0 m pc ls (.int (iI (b)) :: .int (iI (a)) :: rest)) := lv_icmp_lt hexec hb hdg ht (fun h => kt ((iI_lt h1 h2 h3 h4).mp h)) (fun h => kf (Int.not_lt.mp (fun q => h ((iI_lt h1 h2 h3 h4).mpr q))))
theorem ri_icmp_ge (hexec : p.tables.exec = Jvm.exec) (hb : c.code = cc) {a b : Int} {off : Int} {tgt : Nat} (hdg : decode cc pc = .ok (.if_icmp .ge off, 3)) (ht : (pc : Int) + off = (tgt : Int))
    (kt : b ≤ a → W p l e R s m args below meth c H locs cells slots Q (F0 m tgt ls (rest))) (kf : a < b → W p l e R s m args below meth c H locs cells slots Q (F0 m (pc + 3) ls (rest))) (h1 : -2147483648 ≤ a := by omega) (h2 : a ≤ 2147483647 := by omega) (h3 : -2147483648 ≤ b := by omega) (h4 : b ≤ 2147483647 := by omega) : W p l e R s m args below meth c H locs cells slots Q (F0 m pc ls (.int (iI (b)) :: .int (iI (a)) :: rest)) := lv_icmp_ge hexec hb hdg ht (fun h => kt ((iI_le h3 h4 h1 h2).mp h)) (fun h => kf (Int.not_le.mp (fun q => h ((iI_le h3 h4 h1 h2).mpr q))))
theorem ri_icmp_gt (hexec : p.tables.exec = Jvm.exec) (hb : c.code = cc) {a b : Int} {off : Int} {tgt : Nat} (hdg : decode cc pc = .ok (.if_icmp .gt off, 3)) (ht : (pc : Int) + off = (tgt : Int))
    (kt : b < a → W p l e R s m args below meth c H locs cells slots Q (F0 m tgt ls (rest))) (kf : a ≤ b → W p l e R s m args below meth c H locs cells slots Q (F0 m (pc + 3) ls (rest))) (h1 : -2147483648 ≤ a := by omega) (h2 : a ≤ 2147483647 := by omega) (h3 : -2147483648 ≤ b := by omega) (h4 : b ≤ 2147483647 := by omega) : W p l e R s m args below meth c H locs cells slots Q (F0 m pc ls (.int (iI (b)) :: .int (iI (a)) :: rest)) := lv_icmp_gt hexec hb hdg ht (fun h => kt ((iI_lt h3 h4 h1 h2).mp h)) (fun h => kf (Int.not_lt.mp (fun q => h ((iI_lt h3 h4 h1 h2).mpr q))))
theorem ri_icmp_le (hexec : p.tables.exec = Jvm.exec) (hb : c.code = cc) {a b : Int} {off : Int} {tgt : Nat} (hdg : decode cc pc = .ok (.if_icmp .le off, 3)) (ht : (pc : Int) + off = (tgt : Int))
    (kt : a ≤ b → W p l e R s m args below meth c H locs cells slots Q (F0 m tgt ls (rest))) (kf : b < a → W p l e R s m args below meth c H locs cells slots Q (F0 m (pc + 3) ls (rest))) (h1 : -2147483648 ≤ a := by omega) (h2 : a ≤ 2147483647 := by omega) (h3 : -2147483648 ≤ b := by omega) (h4 : b ≤ 2147483647 := by omega) : W p l e R s m args below meth c H locs cells slots Q (F0 m pc ls (.int (iI (b)) :: .int (iI (a)) :: rest)) := lv_icmp_le hexec hb hdg ht (fun h => kt ((iI_le h1 h2 h3 h4).mp h)) (fun h => kf (Int.not_le.mp (fun q => h ((iI_le h1 h2 h3 h4).mpr q))))
theorem ri_if_eq (hexec : p.tables.exec = Jvm.exec) (hb : c.code = cc) {a : Int} {off : Int} {tgt : Nat} (hdg : decode cc pc = .ok (.ifCond .eq off, 3)) (ht : (pc : Int) + off = (tgt : Int))
    (kt : a = 0 → W p l e R s m args below meth c H locs cells slots Q (F0 m tgt ls (rest))) (kf : a ≠ 0 → W p l e R s m args below meth c H locs cells slots Q (F0 m (pc + 3) ls (rest))) (h1 : -2147483648 ≤ a := by omega) (h2 : a ≤ 2147483647 := by omega) : W p l e R s m args below meth c H locs cells slots Q (F0 m pc ls (.int (iI (a)) :: rest)) := lv_if_eq hexec hb hdg ht (fun h => kt ((iI_eq h1 h2 (by decide) (by decide)).mp (h.trans iI_0))) (fun h => kf (fun q => h (by rw [q]; rfl)))
theorem ri_if_ne (hexec : p.tables.exec = Jvm.exec) (hb : c.code = cc) {a : Int} {off : Int} {tgt : Nat} (hdg : decode cc pc = .ok (.ifCond .ne off, 3)) (ht : (pc : Int) + off = (tgt : Int))
    (kt : a ≠ 0 → W p l e R s m args below meth c H locs cells slots Q (F0 m tgt ls (rest))) (kf : a = 0 → W p l e R s m args below meth c H locs cells slots Q (F0 m (pc + 3) ls (rest))) (h1 : -2147483648 ≤ a := by omega) (h2 : a ≤ 2147483647 := by omega) : W p l e R s m args below meth c H locs cells slots Q (F0 m pc ls (.int (iI (a)) :: rest)) := lv_if_ne hexec hb hdg ht (fun h => kt (fun q => h (by rw [q]; rfl))) (fun h => kf ((iI_eq h1 h2 (by decide) (by decide)).mp (h.trans iI_0)))
theorem ri_if_lt (hexec : p.tables.exec = Jvm.exec) (hb : c.code = cc) {a : Int} {off : Int} {tgt : Nat} (hdg : decode cc pc = .ok (.ifCond .lt off, 3)) (ht : (pc : Int) + off = (tgt : Int))
    (kt : a < 0 → W p l e R s m args below meth c H locs cells slots Q (F0 m tgt ls (rest))) (kf : 0 ≤ a → W p l e R s m args below meth c H locs cells slots Q (F0 m (pc + 3) ls (rest))) (h1 : -2147483648 ≤ a := by omega) (h2 : a ≤ 2147483647 := by omega) : W p l e R s m args below meth c H locs cells slots Q (F0 m pc ls (.int (iI (a)) :: rest)) := lv_if_lt hexec hb hdg ht (fun h => kt ((iI_lt h1 h2 (by decide) (by decide)).mp (iI_0 ▸ h))) (fun h => kf (Int.not_lt.mp (fun q => h (iI_0.symm ▸ (iI_lt h1 h2 (by decide) (by decide)).mpr q))))
theorem ri_if_ge (hexec : p.tables.exec = Jvm.exec) (hb : c.code = cc) {a : Int} {off : Int} {tgt : Nat} (hdg : decode cc pc = .ok (.ifCond .ge off, 3)) (ht : (pc : Int) + off = (tgt : Int))
    (kt : 0 ≤ a → W p l e R s m args below meth c H locs cells slots Q (F0 m tgt ls (rest))) (kf : a < 0 → W p l e R s m args below meth c H locs cells slots Q (F0 m (pc + 3) ls (rest))) (h1 : -2147483648 ≤ a := by omega) (h2 : a ≤ 2147483647 := by omega) : W p l e R s m args below meth c H locs cells slots Q (F0 m pc ls (.int (iI (a)) :: rest)) := lv_if_ge hexec hb hdg ht (fun h => kt ((iI_le (by decide) (by decide) h1 h2).mp (iI_0 ▸ h))) (fun h => kf (Int.not_le.mp (fun q => h (iI_0.symm ▸ (iI_le (by decide) (by decide) h1 h2).mpr q))))
theorem ri_if_gt (hexec : p.tables.exec = Jvm.exec) (hb : c.code = cc) {a : Int} {off : Int} {tgt : Nat} (hdg : decode cc pc = .ok (.ifCond .gt off, 3)) (ht : (pc : Int) + off = (tgt : Int))
    (kt : 0 < a → W p l e R s m args below meth c H locs cells slots Q (F0 m tgt ls (rest))) (kf : a ≤ 0 → W p l e R s m args below meth c H locs cells slots Q (F0 m (pc + 3) ls (rest))) (h1 : -2147483648 ≤ a := by omega) (h2 : a ≤ 2147483647 := by omega) : W p l e R s m args below meth c H locs cells slots Q (F0 m pc ls (.int (iI (a)) :: rest)) := lv_if_gt hexec hb hdg ht (fun h => kt ((iI_lt (by decide) (by decide) h1 h2).mp (iI_0 ▸ h))) (fun h => kf (Int.not_lt.mp (fun q => h (iI_0.symm ▸ (iI_lt (by decide) (by decide) h1 h2).mpr q))))
theorem ri_if_le (hexec : p.tables.exec = Jvm.exec) (hb : c.code = cc) {a : Int} {off : Int} {tgt : Nat} (hdg : decode cc pc = .ok (.ifCond .le off, 3)) (ht : (pc : Int) + off = (tgt : Int))
    (kt : a ≤ 0 → W p l e R s m args below meth c H locs cells slots Q (F0 m tgt ls (rest))) (kf : 0 < a → W p l e R s m args below meth c H locs cells slots Q (F0 m (pc + 3) ls (rest))) (h1 : -2147483648 ≤ a := by omega) (h2 : a ≤ 2147483647 := by omega) : W p l e R s m args below meth c H locs cells slots Q (F0 m pc ls (.int (iI (a)) :: rest)) := lv_if_le hexec hb hdg ht (fun h => kt ((iI_le h1 h2 (by decide) (by decide)).mp (iI_0 ▸ h))) (fun h => kf (Int.not_le.mp (fun q => h (iI_0.symm ▸ (iI_le h1 h2 (by decide) (by decide)).mpr q))))
theorem ri_lcmp_eq (hexec : p.tables.exec = Jvm.exec) (hb : c.code = cc) {a b : Int} {off : Int} {tgt : Nat} (hdg : decode cc pc = .ok (.lcmp, 1)) (hdg2 : decode cc (pc + 1) = .ok (.ifCond .eq off, 3)) (ht : ((pc + 1 : Nat) : Int) + off = (tgt : Int))
    (kt : a = b → W p l e R s m args below meth c H locs cells slots Q (F0 m tgt ls (rest))) (kf : a ≠ b → W p l e R s m args below meth c H locs cells slots Q (F0 m (pc + 4) ls (rest))) (h1 : -9223372036854775808 ≤ a := by omega) (h2 : a ≤ 9223372036854775807 := by omega) (h3 : -9223372036854775808 ≤ b := by omega) (h4 : b ≤ 9223372036854775807 := by omega) : W p l e R s m args below meth c H locs cells slots Q (F0 m pc ls (.long (lL (b)) :: .long (lL (a)) :: rest)) := W.lcmp hexec hb hdg (lv_if_eq hexec hb hdg2 ht (fun h => kt ((lL_eq h1 h2 h3 h4).mp ((lg_cmp_eq _ _).mp h))) (fun h => kf (fun q => h ((lg_cmp_eq _ _).mpr (by rw [q])))))
theorem ri_lcmp_ne (hexec : p.tables.exec = Jvm.exec) (hb : c.code = cc) {a b : Int} {off : Int} {tgt : Nat} (hdg : decode cc pc = .ok (.lcmp, 1)) (hdg2 : decode cc (pc + 1) = .ok (.ifCond .ne off, 3)) (ht : ((pc + 1 : Nat) : Int) + off = (tgt : Int))
    (kt : a ≠ b → W p l e R s m args below meth c H locs cells slots Q (F0 m tgt ls (rest))) (kf : a = b → W p l e R s m args below meth c H locs cells slots Q (F0 m (pc + 4) ls (rest))) (h1 : -9223372036854775808 ≤ a := by omega) (h2 : a ≤ 9223372036854775807 := by omega) (h3 : -9223372036854775808 ≤ b := by omega) (h4 : b ≤ 9223372036854775807 := by omega) : W p l e R s m args below meth c H locs cells slots Q (F0 m pc ls (.long (lL (b)) :: .long (lL (a)) :: rest)) := W.lcmp hexec hb hdg (lv_if_ne hexec hb hdg2 ht (fun h => kt (fun q => h ((lg_cmp_eq _ _).mpr (by rw [q])))) (fun h => kf ((lL_eq h1 h2 h3 h4).mp ((lg_cmp_eq _ _).mp h))))
theorem ri_lcmp_lt (hexec : p.tables.exec = Jvm.exec) (hb : c.code = cc) {a b : Int} {off : Int} {tgt : Nat} (hdg : decode cc pc = .ok (.lcmp, 1)) (hdg2 : decode cc (pc + 1) = .ok (.ifCond .lt off, 3)) (ht : ((pc + 1 : Nat) : Int) + off = (tgt : Int))
    (kt : a < b → W p l e R s m args below meth c H locs cells slots Q (F0 m tgt ls (rest))) (kf : b ≤ a → W p l e R s m args below meth c H locs cells slots Q (F0 m (pc + 4) ls (rest))) (h1 : -9223372036854775808 ≤ a := by omega) (h2 : a ≤ 9223372036854775807 := by omega) (h3 : -9223372036854775808 ≤ b := by omega) (h4 : b ≤ 9223372036854775807 := by omega) : W p l e R s m args below meth c H locs cells slots Q (F0 m pc ls (.long (lL (b)) :: .long (lL (a)) :: rest)) := W.lcmp hexec hb hdg (lv_if_lt hexec hb hdg2 ht (fun h => kt ((lL_lt h1 h2 h3 h4).mp ((lg_cmp_lt _ _).mp h))) (fun h => kf (Int.not_lt.mp (fun q => h ((lg_cmp_lt _ _).mpr ((lL_lt h1 h2 h3 h4).mpr q))))))
theorem ri_lcmp_ge (hexec : p.tables.exec = Jvm.exec) (hb : c.code = cc) {a b : Int} {off : Int} {tgt : Nat} (hdg : decode cc pc = .ok (.lcmp, 1)) (hdg2 : decode cc (pc + 1) = .ok (.ifCond .ge off, 3)) (ht : ((pc + 1 : Nat) : Int) + off = (tgt : Int))
    (kt : b ≤ a → W p l e R s m args below meth c H locs cells slots Q (F0 m tgt ls (rest))) (kf : a < b → W p l e R s m args below meth c H locs cells slots Q (F0 m (pc + 4) ls (rest))) (h1 : -9223372036854775808 ≤ a := by omega) (h2 : a ≤ 9223372036854775807 := by omega) (h3 : -9223372036854775808 ≤ b := by omega) (h4 : b ≤ 9223372036854775807 := by omega) : W p l e R s m args below meth c H locs cells slots Q (F0 m pc ls (.long (lL (b)) :: .long (lL (a)) :: rest)) := W.lcmp hexec hb hdg (lv_if_ge hexec hb hdg2 ht (fun h => kt ((lL_le h3 h4 h1 h2).mp ((lg_cmp_ge _ _).mp h))) (fun h => kf (Int.not_le.mp (fun q => h ((lg_cmp_ge _ _).mpr ((lL_le h3 h4 h1 h2).mpr q))))))
theorem ri_lcmp_gt (hexec : p.tables.exec = Jvm.exec) (hb : c.code = cc) {a b : Int} {off : Int} {tgt : Nat} (hdg : decode cc pc = .ok (.lcmp, 1)) (hdg2 : decode cc (pc + 1) = .ok (.ifCond .gt off, 3)) (ht : ((pc + 1 : Nat) : Int) + off = (tgt : Int))
    (kt : b < a → W p l e R s m args below meth c H locs cells slots Q (F0 m tgt ls (rest))) (kf : a ≤ b → W p l e R s m args below meth c H locs cells slots Q (F0 m (pc + 4) ls (rest))) (h1 : -9223372036854775808 ≤ a := by omega) (h2 : a ≤ 9223372036854775807 := by omega) (h3 : -9223372036854775808 ≤ b := by omega) (h4 : b ≤ 9223372036854775807 := by omega) : W p l e R s m args below meth c H locs cells slots Q (F0 m pc ls (.long (lL (b)) :: .long (lL (a)) :: rest)) := W.lcmp hexec hb hdg (lv_if_gt hexec hb hdg2 ht (fun h => kt ((lL_lt h3 h4 h1 h2).mp ((lg_cmp_gt _ _).mp h))) (fun h => kf (Int.not_lt.mp (fun q => h ((lg_cmp_gt _ _).mpr ((lL_lt h3 h4 h1 h2).mpr q))))))
theorem ri_lcmp_le (hexec : p.tables.exec = Jvm.exec) (hb : c.code = cc) {a b : Int} {off : Int} {tgt : Nat} (hdg : decode cc pc = .ok (.lcmp, 1)) (hdg2 : decode cc (pc + 1) = .ok (.ifCond .le off, 3)) (ht : ((pc + 1 : Nat) : Int) + off = (tgt : Int))
    (kt : a ≤ b → W p l e R s m args below meth c H locs cells slots Q (F0 m tgt ls (rest))) (kf : b < a → W p l e R s m args below meth c H locs cells slots Q (F0 m (pc + 4) ls (rest))) (h1 : -9223372036854775808 ≤ a := by omega) (h2 : a ≤ 9223372036854775807 := by omega) (h3 : -9223372036854775808 ≤ b := by omega) (h4 : b ≤ 9223372036854775807 := by omega) : W p l e R s m args below meth c H locs cells slots Q (F0 m pc ls (.long (lL (b)) :: .long (lL (a)) :: rest)) := W.lcmp hexec hb hdg (lv_if_le hexec hb hdg2 ht (fun h => kt ((lL_le h1 h2 h3 h4).mp ((lg_cmp_le _ _).mp h))) (fun h => kf (Int.not_le.mp (fun q => h ((lg_cmp_le _ _).mpr ((lL_le h1 h2 h3 h4).mpr q))))))
theorem sg_i {a b : Int} (h1 : -2147483648 ≤ a) (h2 : a ≤ 2147483647) (h3 : 0 < b) (h4 : b ≤ 2147483647) : (iI a ^^^ iI b).toInt < 0 ↔ a < 0 := by
  have e : (iI a ^^^ iI b).toBitVec.msb = decide ((iI a ^^^ iI b).toInt < 0) := BitVec.msb_eq_toInt
  have ea : (iI a).toBitVec.msb = decide ((iI a).toInt < 0) := BitVec.msb_eq_toInt
  have eb : (iI b).toBitVec.msb = decide ((iI b).toInt < 0) := BitVec.msb_eq_toInt
  rw [iI_to h1 h2] at ea
  rw [iI_to (by omega) h4, decide_eq_false (by omega)] at eb
  rw [Int32.toBitVec_xor, BitVec.msb_xor, ea, eb, Bool.xor_false] at e
  exact ⟨fun h => by rw [decide_eq_true h] at e; exact of_decide_eq_true e, fun h => by rw [decide_eq_true h] at e; exact of_decide_eq_true e.symm⟩
theorem sg_l {a b : Int} (h1 : -9223372036854775808 ≤ a) (h2 : a ≤ 9223372036854775807) (h3 : 0 < b) (h4 : b ≤ 9223372036854775807) : (lL a ^^^ lL b).toInt < 0 ↔ a < 0 := by
  have e : (lL a ^^^ lL b).toBitVec.msb = decide ((lL a ^^^ lL b).toInt < 0) := BitVec.msb_eq_toInt
  have ea : (lL a).toBitVec.msb = decide ((lL a).toInt < 0) := BitVec.msb_eq_toInt
  have eb : (lL b).toBitVec.msb = decide ((lL b).toInt < 0) := BitVec.msb_eq_toInt
  rw [lL_to h1 h2] at ea
  rw [lL_to (by omega) h4, decide_eq_false (by omega)] at eb
  rw [Int64.toBitVec_xor, BitVec.msb_xor, ea, eb, Bool.xor_false] at e
  exact ⟨fun h => by rw [decide_eq_true h] at e; exact of_decide_eq_true e, fun h => by rw [decide_eq_true h] at e; exact of_decide_eq_true e.symm⟩
theorem ri_ixor_ge (hexec : p.tables.exec = Jvm.exec) (hb : c.code = cc) {a b : Int} {off : Int} {tgt : Nat} (hdg : decode cc pc = .ok (.ixor, 1)) (hdg2 : decode cc (pc + 1) = .ok (.ifCond .ge off, 3)) (ht : ((pc + 1 : Nat) : Int) + off = (tgt : Int))
    (kt : 0 ≤ a → W p l e R s m args below meth c H locs cells slots Q (F0 m tgt ls (rest))) (kf : a < 0 → W p l e R s m args below meth c H locs cells slots Q (F0 m (pc + 4) ls (rest))) (h1 : -2147483648 ≤ a := by omega) (h2 : a ≤ 2147483647 := by omega) (h3 : 0 < b := by omega) (h4 : b ≤ 2147483647 := by omega) : W p l e R s m args below meth c H locs cells slots Q (F0 m pc ls (.int (iI (b)) :: .int (iI (a)) :: rest)) := lv_ixor hexec hb hdg (lv_if_ge hexec hb hdg2 ht (fun h => kt (Int.not_lt.mp (fun q => absurd ((sg_i h1 h2 h3 h4).mpr q) (Int.not_lt.mpr (Int32.le_iff_toInt_le.mp h))))) (fun h => kf (Int.not_le.mp (fun q => h (Int32.le_iff_toInt_le.mpr (Int.not_lt.mp (fun z => absurd ((sg_i h1 h2 h3 h4).mp z) (Int.not_lt.mpr q))))))))
theorem ri_lxor_ge (hexec : p.tables.exec = Jvm.exec) (hb : c.code = cc) {a b : Int} {off : Int} {tgt : Nat} (hdg : decode cc pc = .ok (.lxor, 1)) (hdg0 : decode cc (pc + 1) = .ok (.lconst 0, 1)) (hdg1 : decode cc (pc + 2) = .ok (.lcmp, 1)) (hdg2 : decode cc (pc + 3) = .ok (.ifCond .ge off, 3)) (ht : ((pc + 3 : Nat) : Int) + off = (tgt : Int))
    (kt : 0 ≤ a → W p l e R s m args below meth c H locs cells slots Q (F0 m tgt ls (rest))) (kf : a < 0 → W p l e R s m args below meth c H locs cells slots Q (F0 m (pc + 6) ls (rest))) (h1 : -9223372036854775808 ≤ a := by omega) (h2 : a ≤ 9223372036854775807 := by omega) (h3 : 0 < b := by omega) (h4 : b ≤ 9223372036854775807 := by omega) : W p l e R s m args below meth c H locs cells slots Q (F0 m pc ls (.long (lL (b)) :: .long (lL (a)) :: rest)) := lv_lxor hexec hb hdg (lv_lconst (v := 0) hexec hb hdg0 (by decide) (W.lcmp hexec hb hdg1 (lv_if_ge hexec hb hdg2 ht (fun h => kt (Int.not_lt.mp (fun q => absurd ((sg_l h1 h2 h3 h4).mpr q) (Int.not_lt.mpr (Int64.le_iff_toInt_le.mp ((lg_cmp_ge _ _).mp h)))))) (fun h => kf (Int.not_le.mp (fun q => h ((lg_cmp_ge _ _).mpr (Int64.le_iff_toInt_le.mpr (Int.not_lt.mp (fun z => absurd ((sg_l h1 h2 h3 h4).mp z) (Int.not_lt.mpr q)))))))))))
end RI
end
section
/-! Contracts in one form: the claim's words at a state (tk), the world's cells, a definite answer; pure methods (the heap stays) and methods that write in their cells. -/
def wA (wc : va_W) (q : Nat) : Prop := ∃ (k : Nat) (e : va_E), wc[k]? = some (q, e)
def cPre (D : va_G) (tys : List (ClassId × FieldType)) (av : List Value) (wc : va_W) : Array Value → State → Prop :=
  va_Pc av (fun U => tk U ∧ va_K D vwCl tys U ∧ va_P D vwCl wc U.heap ∧ va_D (fun _ => True) wc)
theorem cPre_blind {D : va_G} {tys : List (ClassId × FieldType)} {av : List Value} {wc : va_W} : FrameBlind (cPre D tys av wc) := by
  intro a U g mk h
  obtain ⟨h0, h1, h2, h3, h4⟩ := h
  exact ⟨h0, tk_warm (s := U) (U := U.calling g mk a) (State.WarmedH.refl U) h1, va_K.moved (u := U) (U := U.calling g mk a) (Vm.Alike.refl U.vm) h2, h3, h4⟩
def pQ (v : Value) : Array Value → State → Outcome → State → Prop := fun _ st o t => o = .returned (some v) ∧ t.heap = st.heap
def mQ (D : va_G) (wc : va_W) (ans : Option Value) (w1 : va_W) : Array Value → State → Outcome → State → Prop := fun _ st o t => o = .returned ans ∧ va_P D vwCl w1 t.heap ∧ va_F (wA wc) st t
def pMet (l : Launch) (y : MethodName) (cc : ByteArray) (n : Nat) (r : Option FieldType) (rm : Room) (D : va_G) (tys : List (ClassId × FieldType)) (av : List Value) (wc : va_W) (v : Value) : Prop :=
  Met l y [Cond.code y cc n r] rm (cPre D tys av wc) (pQ v) 0 0 (fun _ => False)
def mMet (l : Launch) (y : MethodName) (cc : ByteArray) (n : Nat) (r : Option FieldType) (rm : Room) (D : va_G) (tys : List (ClassId × FieldType)) (av : List Value) (wc : va_W) (ans : Option Value) (w1 : va_W) : Prop :=
  Met l y [Cond.code y cc n r] rm (cPre D tys av wc) (mQ D wc ans w1) 0 0 (wA wc)
section CM
variable {l : Launch} {y : MethodName} {cc : ByteArray} {n : Nat} {r : Option FieldType} {rm : Room} {D : va_G} {tys : List (ClassId × FieldType)} {av : List Value} {wc w1 : va_W} {v : Value} {ans : Option Value}
theorem pMet_of (hy : plainName y.cls = true) (hn : (lg_sl av).length ≤ n)
    (body : ∀ p e s m below meth c, p.tables.exec = Jvm.exec → c.code = cc → meth.sig.returnType = r → s.vm.findClass y.cls = some m.cls → meth.locks = false → c.maxLocals = n → tk s → va_K D vwCl tys s → va_P D vwCl wc s.heap → va_D (fun _ => True) wc →
      ∀ ls : Array Slot, lv_has ls n (lv_args 0 av) → W p l e rm s m av.toArray below meth c s.heap [] 0 0 (MQ below (pQ v) av.toArray s 0 0 (fun _ => False)) (F0 m 0 ls [])) : pMet l y cc n r rm D tys av wc v := by
  refine Met.ofW (cc := cc) (maxL := n) (ret := r) hy rfl ?_
  intro p e s m args below meth c s₁ B hml hv
  obtain ⟨rfl, h1, h2, h3, h4⟩ := hv
  have hl := lv_entry av (n := n) hn
  rw [lg_entry_eq]
  exact body p e s m below meth c B.exec B.bytes B.returns (findClass_of_methodNamed B.named) B.notSynchronized hml h1 h2 h3 h4 _ hl
theorem mMet_of (hy : plainName y.cls = true) (hn : (lg_sl av).length ≤ n)
    (body : ∀ p e s m below meth c, p.tables.exec = Jvm.exec → c.code = cc → meth.sig.returnType = r → s.vm.findClass y.cls = some m.cls → meth.locks = false → c.maxLocals = n → tk s → va_K D vwCl tys s → va_P D vwCl wc s.heap → va_D (wA wc) wc → va_S (wA wc) s.heap s.heap [] →
      ∀ ls : Array Slot, lv_has ls n (lv_args 0 av) → W p l e rm s m av.toArray below meth c s.heap [] 0 0 (MQ below (mQ D wc ans w1) av.toArray s 0 0 (wA wc)) (F0 m 0 ls [])) : mMet l y cc n r rm D tys av wc ans w1 := by
  refine Met.ofW (cc := cc) (maxL := n) (ret := r) hy rfl ?_
  intro p e s m args below meth c s₁ B hml hv
  obtain ⟨rfl, h1, h2, h3, h4⟩ := hv
  have hl := lv_entry av (n := n) hn
  rw [lg_entry_eq]
  exact body p e s m below meth c B.exec B.bytes B.returns (findClass_of_methodNamed B.named) B.notSynchronized hml h1 h2 h3 ⟨h4.1, fun k q hk => ⟨k, q.2, hk⟩⟩ va_S.rf _ hl
end CM
section CR
variable {p : Program} {l : Launch} {e : Env} {R : Room} {s : State} {m : MethodId} {args : Array Value} {below : List Frame} {meth : Method} {c : Code} {H : Heap} {locs : List Loc} {cells slots : Nat} {Q : State → Prop}
variable {cc : ByteArray} {pc : Nat} {ls : Array Slot} {rest : List Value}
theorem p_iret {x z : Int} (hx : p.tables.exec = Jvm.exec) (hb : c.code = cc) (hr : meth.sig.returnType = some .int) (hlk : meth.locks = false) (hdg : decode cc pc = .ok (.ireturn, 1)) (h : x = z) :
    W p l e R s m args below meth c s.heap [] 0 0 (MQ below (pQ (.int (iI z))) args s 0 0 (fun _ => False)) (F0 m pc ls [.int (iI x)]) := by
  subst h
  exact W.iret hx hb hr (fun t ht _ => ⟨rfl, ht⟩) (fun _ h => by cases h) hdg hlk
theorem p_lret {x z : Int} (hx : p.tables.exec = Jvm.exec) (hb : c.code = cc) (hr : meth.sig.returnType = some .long) (hlk : meth.locks = false) (hdg : decode cc pc = .ok (.lreturn, 1)) (h : x = z) :
    W p l e R s m args below meth c s.heap [] 0 0 (MQ below (pQ (.long (lL z))) args s 0 0 (fun _ => False)) (F0 m pc ls [.long (lL x)]) := by
  subst h
  exact W.lret hx hb hr (fun t ht _ => ⟨rfl, ht⟩) (fun _ h => by cases h) hdg hlk
theorem zb_nar {x : Int} (h : x = 0 ∨ x = 1) : narrow .boolean (.int (iI x)) = .int (iI x) := by rcases h with rfl | rfl <;> rfl
theorem p_zret {x z : Int} (hx : p.tables.exec = Jvm.exec) (hb : c.code = cc) (hr : meth.sig.returnType = some .boolean) (hlk : meth.locks = false) (hdg : decode cc pc = .ok (.ireturn, 1)) (h : x = z) (h01 : x = 0 ∨ x = 1 := by omega) :
    W p l e R s m args below meth c s.heap [] 0 0 (MQ below (pQ (.int (iI z))) args s 0 0 (fun _ => False)) (F0 m pc ls [.int (iI x)]) := by
  subst h
  exact W.zret hx hb hr (zb_nar h01) (fun t ht _ => ⟨rfl, ht⟩) (fun _ h => by cases h) hdg hlk
theorem p_aret {q : Nat} {C : String} (hx : p.tables.exec = Jvm.exec) (hb : c.code = cc) (hr : meth.sig.returnType = some (.object C)) (hlk : meth.locks = false) (hdg : decode cc pc = .ok (.areturn, 1)) :
    W p l e R s m args below meth c s.heap [] 0 0 (MQ below (pQ (.ref q)) args s 0 0 (fun _ => False)) (F0 m pc ls [.ref q]) :=
  W.aret hx hb hr (Or.inl ⟨_, rfl⟩) (Or.inr ⟨_, rfl⟩) (fun t ht _ => ⟨rfl, ht⟩) (fun _ h => by cases h) hdg hlk
variable {D : va_G} {wc w w1 : va_W}
theorem m_vret (hx : p.tables.exec = Jvm.exec) (hb : c.code = cc) (hr : meth.sig.returnType = none) (hlk : meth.locks = false) (hP : va_P D vwCl w H) (hS : va_S (wA wc) s.heap H locs) (hdg : decode cc pc = .ok (.return_, 1)) (h : w = w1) :
    W p l e R s m args below meth c H locs 0 0 (MQ below (mQ D wc none w1) args s 0 0 (wA wc)) (F0 m pc ls []) := by
  subst h
  exact W.vret hx hb hr (fun t ht _ => ⟨rfl, by rw [ht]; exact hP, hS.F ht⟩) hS.2.2 hdg hlk
theorem m_iret {x z : Int} (hx : p.tables.exec = Jvm.exec) (hb : c.code = cc) (hr : meth.sig.returnType = some .int) (hlk : meth.locks = false) (hP : va_P D vwCl w H) (hS : va_S (wA wc) s.heap H locs) (hdg : decode cc pc = .ok (.ireturn, 1)) (h : w = w1) (h2 : x = z) :
    W p l e R s m args below meth c H locs 0 0 (MQ below (mQ D wc (some (.int (iI z))) w1) args s 0 0 (wA wc)) (F0 m pc ls [.int (iI x)]) := by
  subst h; subst h2
  exact W.iret hx hb hr (fun t ht _ => ⟨rfl, by rw [ht]; exact hP, hS.F ht⟩) hS.2.2 hdg hlk
theorem m_lret {x z : Int} (hx : p.tables.exec = Jvm.exec) (hb : c.code = cc) (hr : meth.sig.returnType = some .long) (hlk : meth.locks = false) (hP : va_P D vwCl w H) (hS : va_S (wA wc) s.heap H locs) (hdg : decode cc pc = .ok (.lreturn, 1)) (h : w = w1) (h2 : x = z) :
    W p l e R s m args below meth c H locs 0 0 (MQ below (mQ D wc (some (.long (lL z))) w1) args s 0 0 (wA wc)) (F0 m pc ls [.long (lL x)]) := by
  subst h; subst h2
  exact W.lret hx hb hr (fun t ht _ => ⟨rfl, by rw [ht]; exact hP, hS.F ht⟩) hS.2.2 hdg hlk
end CR
/-- cells put in place of others at the same addresses -/
def wset (W0 : va_W) : List Nat → va_W → va_W
  | i :: is, x :: xs => wset (W0.set i x) is xs
  | [], _ => W0
  | _ :: _, [] => W0
theorem wset_cases : ∀ (is : List Nat) (xs W0 : va_W) (k : Nat) (q : Nat × va_E), (wset W0 is xs)[k]? = some q → (∃ j : Nat, xs[j]? = some q ∧ is[j]? = some k) ∨ (W0[k]? = some q ∧ ∀ j : Nat, j < xs.length → is[j]? ≠ some k)
  | [], xs, W0, k, q, h => Or.inr ⟨by cases xs <;> exact h, fun j _ => by simp⟩
  | i :: is, [], W0, k, q, h => Or.inr ⟨h, fun j hj => by simp at hj⟩
  | i :: is, x :: xs, W0, k, q, h => by
    rcases wset_cases is xs (W0.set i x) k q h with ⟨j, h1, h2⟩ | ⟨h1, h2⟩
    · exact Or.inl ⟨j + 1, by simpa using h1, by simpa using h2⟩
    · by_cases e : i = k
      · subst e
        have hlt : i < W0.length := by
          have := (List.getElem?_eq_some_iff.mp h1).1
          simpa using this
        rw [List.getElem?_set_self hlt] at h1
        cases h1
        exact Or.inl ⟨0, rfl, rfl⟩
      · rw [List.getElem?_set_ne e] at h1
        refine Or.inr ⟨h1, fun j hj => ?_⟩
        cases j with
        | zero => simpa using e
        | succ j => simpa using h2 j (by simpa using hj)
theorem wset_fst : ∀ (is : List Nat) (xs W0 : va_W), (∀ (j i : Nat) (x : Nat × va_E), is[j]? = some i → xs[j]? = some x → (W0.map Prod.fst)[i]? = some x.1) → (wset W0 is xs).map Prod.fst = W0.map Prod.fst
  | [], xs, _, _ => by cases xs <;> rfl
  | _ :: _, [], _, _ => rfl
  | i :: is, x :: xs, W0, h => by
    have h0 : (W0.map Prod.fst)[i]? = some x.1 := h 0 i x rfl rfl
    have e : (W0.set i x).map Prod.fst = W0.map Prod.fst := by
      rw [List.map_set]
      refine List.ext_getElem? (fun k => ?_)
      by_cases hk : i = k
      · subst hk
        rw [List.getElem?_set_self (by have := (List.getElem?_eq_some_iff.mp h0).1; exact this), h0]
      · rw [List.getElem?_set_ne hk]
    show (wset (W0.set i x) is xs).map Prod.fst = _
    rw [wset_fst is xs (W0.set i x) (fun j i' x' h1 h2 => by rw [e]; exact h (j + 1) i' x' (by simpa using h1) (by simpa using h2)), e]
theorem va_D_fst {A : Nat → Prop} {ws ws' : va_W} (hD : va_D A ws) (h : ws'.map Prod.fst = ws.map Prod.fst) : va_D A ws' := by
  have key : ∀ (k : Nat) (q : Nat × va_E), ws'[k]? = some q → ∃ q0, ws[k]? = some q0 ∧ q0.1 = q.1 := by
    intro k q hk
    have h1 : (ws'.map Prod.fst)[k]? = some q.1 := by rw [List.getElem?_map, hk]; rfl
    rw [h, List.getElem?_map] at h1
    cases hq : ws[k]? with
    | none => rw [hq] at h1; cases h1
    | some q0 => rw [hq] at h1; exact ⟨q0, rfl, Option.some.inj h1⟩
  refine ⟨fun i j x y hi hj hxy => ?_, fun k q hk => ?_⟩
  · obtain ⟨x0, h1, h2⟩ := key i x hi
    obtain ⟨y0, h3, h4⟩ := key j y hj
    exact hD.1 i j x0 y0 h1 h3 (h2.trans (hxy.trans h4.symm))
  · obtain ⟨q0, h1, h2⟩ := key k q hk
    rw [← h2]; exact hD.2 k q0 h1
theorem wat {is : List Nat} {ws w : va_W} (h : is.map (fun i => ws[i]?) = w.map some) (k : Nat) (q : Nat × va_E) (hq : w[k]? = some q) : ∃ i, is[k]? = some i ∧ ws[i]? = some q := by
  have h1 : (is.map (fun i => ws[i]?))[k]? = some (some q) := by rw [h, List.getElem?_map, hq]; rfl
  rw [List.getElem?_map] at h1
  cases hi : is[k]? with
  | none => rw [hi] at h1; cases h1
  | some i => rw [hi] at h1; exact ⟨i, rfl, Option.some.inj h1⟩
theorem wcut {is : List Nat} {ws w : va_W} (h : is.map (fun i => ws[i]?) = w.map some) : is.filterMap (fun i => ws[i]?) = w := by
  induction is generalizing w with
  | nil => cases w with
    | nil => rfl
    | cons a b => cases h
  | cons i is ih => cases w with
    | nil => cases h
    | cons a b =>
      simp only [List.map_cons, List.cons.injEq] at h
      rw [List.filterMap_cons, h.1, ih h.2]
/-- behind a call that wrote in its cells -/
theorem wjoin {A : Nat → Prop} {D : va_G} {W0 wc w1 : va_W} {H H1 : Heap} {is : List Nat} (hP : va_P D vwCl W0 H) (hD : va_D A W0) (hC : is.map (fun i => W0[i]?) = wc.map some) (hf : w1.map Prod.fst = wc.map Prod.fst)
    (hk : ∀ q : Nat, q < H.size → ¬ wA wc q → H1[q]? = H[q]?) (hP1 : va_P D vwCl w1 H1) : va_P D vwCl (wset W0 is w1) H1 ∧ va_D A (wset W0 is w1) := by
  have hlen : w1.length = wc.length := by simpa using congrArg List.length hf
  have hlen2 : is.length = wc.length := by simpa using congrArg List.length hC
  refine ⟨fun k q hq => ?_, va_D_fst hD (wset_fst is w1 W0 (fun j i x h1 h2 => ?_))⟩
  · rcases wset_cases is w1 W0 k q hq with ⟨j, h1, -⟩ | ⟨h1, h2⟩
    · exact hP1 j q h1
    · have hl := (hP k q h1).lt
      refine (hP k q h1).kept (hk q.1 hl ?_)
      rintro ⟨j, ee, hj⟩
      obtain ⟨i, g1, g2⟩ := wat hC j (q.1, ee) hj
      have hik := hD.1 k i q (q.1, ee) h1 g2 rfl
      subst hik
      exact h2 j (by rw [hlen]; exact (List.getElem?_eq_some_iff.mp hj).1) g1
  · have e1 : (wc.map Prod.fst)[j]? = some x.1 := by rw [← hf, List.getElem?_map, h2]; rfl
    rw [List.getElem?_map] at e1
    cases hj : wc[j]? with
    | none => rw [hj] at e1; cases e1
    | some x0 =>
      rw [hj] at e1
      obtain ⟨i2, g1, g2⟩ := wat hC j x0 hj
      cases h1.symm.trans g1
      rw [List.getElem?_map, g2]
      exact e1
section CC
variable {p : Program} {l : Launch} {e : Env} {R : Room} {s : State} {m : MethodId} {args : Array Value} {below : List Frame} {meth : Method} {c : Code} {H : Heap} {locs : List Loc} {cells slots : Nat} {Q : State → Prop}
variable {cc : ByteArray} {pc : Nat} {ls : Array Slot} {rest st0 : List Value} {a : Array Value}
theorem p_run {v : Value} (hr : va_Run p l e R s m args below meth c H locs cells slots 0 0 (F0 m pc ls st0) rest (pQ v a) (fun _ => False))
    (kk : W p l e R s m args below meth c H locs cells slots Q (F0 m (pc + 3) ls (v :: rest))) : W p l e R s m args below meth c H locs cells slots Q (F0 m pc ls st0) := by
  intro T hT X
  obtain ⟨v', st₀, t, T', L, h0, X', hL, e1, e2, ⟨hv, hp⟩, st⟩ := hr T hT X
  cases hv
  have hL0 : L = [] := List.eq_nil_iff_forall_not_mem.mpr (fun q hq => hL q hq)
  subst hL0
  rw [List.append_nil] at X'
  obtain ⟨t2, a1, b1⟩ := kk T' (by rw [e1, hp, h0]) X'
  exact ⟨t2, st t2 a1, b1⟩
variable {D : va_G} {A : Nat → Prop} {H0 : Heap} {W0 wc w1 : va_W}
theorem m_run {ans : Option Value} (hr : va_Run p l e R s m args below meth c H locs cells slots 0 0 (F0 m pc ls st0) rest (mQ D wc ans w1 a) (wA wc)) (hP : va_P D vwCl W0 H) (hD : va_D A W0) (hS : va_S A H0 H locs)
    (is : List Nat) (hC : is.map (fun i => W0[i]?) = wc.map some) (hf : w1.map Prod.fst = wc.map Prod.fst)
    (kk : ∀ (H1 : Heap) (locs1 : List Loc), va_P D vwCl (wset W0 is w1) H1 → va_D A (wset W0 is w1) → va_S A H0 H1 locs1 → W p l e R s m args below meth c H1 locs1 cells slots Q (F0 m (pc + 3) ls (ans.toList ++ rest))) : W p l e R s m args below meth c H locs cells slots Q (F0 m pc ls st0) := by
  intro T hT X
  obtain ⟨v', st₀, t, T', L, h0, X', hL, e1, e2, ⟨hv, hp, hz, hk⟩, st⟩ := hr T hT X
  cases hv
  rw [h0] at hz hk
  have hA : ∀ q, wA wc q → A q := by
    rintro q ⟨k, ee, h⟩
    obtain ⟨i, -, g⟩ := wat hC k (q, ee) h
    exact hD.2 i (q, ee) g
  obtain ⟨j1, j2⟩ := wjoin hP hD hC hf hk hp
  obtain ⟨t2, a1, b1⟩ := kk T'.heap (locs ++ L) (by rw [e1]; exact j1) j2
    ⟨Nat.le_trans hS.1 (by rw [e1]; exact hz), fun q h1 h2 => by rw [e1, hk q (Nat.lt_of_lt_of_le h1 hS.1) (fun z => h2 (hA q z))]; exact hS.2.1 q h1 h2, fun q hq => by
      rcases List.mem_append.mp hq with h | h
      · exact hS.2.2 q h
      · exact hA _ (hL q h)⟩ T' rfl X'
  exact ⟨t2, st t2 a1, b1⟩
end CC
end
section
/-! Fields and arrays, in short rows. -/
def fG (own : String) (ix : Nat) (ref : String) (ci : Nat) (C : String) (T : u_T) (N k : Nat) : Prop :=
  vwCl[ci]? = some (C, T, N) ∧ k < N ∧ (∀ w ∈ u_ws C T N, w ∈ tbg) ∧ Cond.fieldLink own ix ref (T k).2.1 (T k).2.2.1 ∈ tbg ∧ (T k).1 = ref
/-- of a nest mate -/
def fN (own host : String) (ix : Nat) (ref : String) (ci : Nat) (C : String) (T : u_T) (N k : Nat) : Prop :=
  vwCl[ci]? = some (C, T, N) ∧ k < N ∧ (∀ w ∈ u_ws C T N, w ∈ tbg) ∧ Cond.fieldLinkNest own ix ref (T k).2.1 (T k).2.2.1 host ∈ tbg ∧ (T k).1 = ref
def fT (T : u_T) (N : Nat) (ty : Nat → FieldType) : Prop := (∀ k, k < N → parseFieldDescriptor (T k).2.2.1 = some (ty k)) ∧ ∀ a, a < N → ∀ b, b < N → a ≠ b → (T a).2.1 ≠ (T b).2.1
section GH
variable {p : Program} {l : Launch} {e : Env} {R : Room} {s : State} {m : MethodId} {args : Array Value} {below : List Frame} {meth : Method} {c : Code} {H : Heap} {locs : List Loc} {cells slots : Nat} {Q : State → Prop}
variable {cc : ByteArray} {pc ix ci N k a : Nat} {ls : Array Slot} {rest : List Value} {own host ref C : String} {T : u_T} {D : va_G} {A : Nat → Prop} {tys : List (ClassId × FieldType)} {ws : va_W} {H0 : Heap} {fs : List Value} {v : Value} {ty : Nat → FieldType}
theorem g_get (hx : p.tables.exec = Jvm.exec) (hb : c.code = cc) (hk : tk s) (hown : s.vm.findClass own = some m.cls) (hK : va_K D vwCl tys s) (hP : va_P D vwCl ws H) (q0 : Nat) (he : ws[q0]? = some (a, .inr (ci, fs))) (F : fG own ix ref ci C T N k) (hv : fs[k]? = some v) (hdg : decode cc pc = .ok (.getfield ix, 3))
    (kk : W p l e R s m args below meth c H locs cells slots Q (F0 m (pc + 3) ls (v :: rest))) : W p l e R s m args below meth c H locs cells slots Q (F0 m pc ls (.ref a :: rest)) := by
  obtain ⟨h1, h2, h3, h4, h5⟩ := F
  exact va_get (Ts := tbg) hx hb (fun w hw => hk w hw args) h3 hown hK hP q0 he h1 k h2 (hk _ h4 args) (fun x h => by rw [← h5]; exact h) hv hdg kk
theorem g_getN (hx : p.tables.exec = Jvm.exec) (hb : c.code = cc) (hk : tk s) (hown : s.vm.findClass own = some m.cls) (hK : va_K D vwCl tys s) (hP : va_P D vwCl ws H) (q0 : Nat) (he : ws[q0]? = some (a, .inr (ci, fs))) (F : fN own host ix ref ci C T N k) (hv : fs[k]? = some v) (hdg : decode cc pc = .ok (.getfield ix, 3))
    (kk : W p l e R s m args below meth c H locs cells slots Q (F0 m (pc + 3) ls (v :: rest))) : W p l e R s m args below meth c H locs cells slots Q (F0 m pc ls (.ref a :: rest)) := by
  obtain ⟨h1, h2, h3, h4, h5⟩ := F
  exact va_getN (Ts := tbg) hx hb (fun w hw => hk w hw args) h3 hown hK hP q0 he h1 k h2 (hk _ h4 args) (fun x h => by rw [← h5]; exact h) hv hdg kk
theorem g_put (hx : p.tables.exec = Jvm.exec) (hb : c.code = cc) (hk : tk s) (hown : s.vm.findClass own = some m.cls) (hK : va_K D vwCl tys s) (hP : va_P D vwCl ws H) (hD : va_D A ws) (hS : va_S A H0 H locs) (q0 : Nat) (he : ws[q0]? = some (a, .inr (ci, fs))) (F : fG own ix ref ci C T N k) (FT : fT T N ty) (hfin : (T k).2.2.2 = false) (hn : narrow (ty k) v = v) (hfit : fits (ty k) v = true) (hl : k < fs.length) (hdg : decode cc pc = .ok (.putfield ix, 3))
    (kk : ∀ (H1 : Heap) (locs1 : List Loc), va_P D vwCl (ws.set q0 (a, .inr (ci, fs.set k v))) H1 → va_D A (ws.set q0 (a, .inr (ci, fs.set k v))) → va_S A H0 H1 locs1 → W p l e R s m args below meth c H1 locs1 cells slots Q (F0 m (pc + 3) ls rest)) : W p l e R s m args below meth c H locs cells slots Q (F0 m pc ls (v :: .ref a :: rest)) := by
  obtain ⟨h1, h2, h3, h4, h5⟩ := F
  exact va_put (Ts := tbg) hx hb (fun w hw => hk w hw args) h3 ty FT.1 FT.2 hown hK hP hD hS q0 he h1 k h2 (hk _ h4 args) (fun x h => by rw [← h5]; exact h) hfin (FT.1 k h2) hn hfit hl hdg kk
theorem g_putN (hx : p.tables.exec = Jvm.exec) (hb : c.code = cc) (hk : tk s) (hown : s.vm.findClass own = some m.cls) (hK : va_K D vwCl tys s) (hP : va_P D vwCl ws H) (hD : va_D A ws) (hS : va_S A H0 H locs) (q0 : Nat) (he : ws[q0]? = some (a, .inr (ci, fs))) (F : fN own host ix ref ci C T N k) (FT : fT T N ty) (hfin : (T k).2.2.2 = false) (hn : narrow (ty k) v = v) (hfit : fits (ty k) v = true) (hl : k < fs.length) (hdg : decode cc pc = .ok (.putfield ix, 3))
    (kk : ∀ (H1 : Heap) (locs1 : List Loc), va_P D vwCl (ws.set q0 (a, .inr (ci, fs.set k v))) H1 → va_D A (ws.set q0 (a, .inr (ci, fs.set k v))) → va_S A H0 H1 locs1 → W p l e R s m args below meth c H1 locs1 cells slots Q (F0 m (pc + 3) ls rest)) : W p l e R s m args below meth c H locs cells slots Q (F0 m pc ls (v :: .ref a :: rest)) := by
  obtain ⟨h1, h2, h3, h4, h5⟩ := F
  exact va_putN (Ts := tbg) hx hb (fun w hw => hk w hw args) h3 ty FT.1 FT.2 hown hK hP hD hS q0 he h1 k h2 (hk _ h4 args) (fun x h => by rw [← h5]; exact h) hfin (FT.1 k h2) hn hfit hl hdg kk
theorem ix_in {i n : Nat} (h : i < n) (hn : n ≤ 2147483647) : vp_in (iI (i : Int)) n := iI_in (by omega) (by omega) (by omega)
theorem ix_cl {i : Nat} (h : i ≤ 2147483647) : (iI (i : Int)).toNatClampNeg = i := by rw [iI_cl (by omega) (by omega)]; omega
variable {n i t0 : Nat} {cA : ClassId}
theorem g_iald {f : Nat → Int32} (hx : p.tables.exec = Jvm.exec) (hb : c.code = cc) (hK : va_K D vwCl tys s) (hP : va_P D vwCl ws H) (q0 t0 : Nat) (ha : ws[q0]? = some (a, .inl (cA, n, .inl f))) (ht : tys[t0]? = some (cA, .int)) (hdg : decode cc pc = .ok (.iaload, 1))
    (kk : W p l e R s m args below meth c H locs cells slots Q (F0 m (pc + 1) ls (.int (f i) :: rest))) (hi : i < n := by omega) (hn : n ≤ 2147483647 := by omega) : W p l e R s m args below meth c H locs cells slots Q (F0 m pc ls (.int (iI (i : Int)) :: .ref a :: rest)) :=
  va_iald hx hb hK hP q0 t0 ha ht (ix_in hi hn) hdg (by rw [ix_cl (by omega)]; exact kk)
theorem g_bald {f : Nat → Int32} (hx : p.tables.exec = Jvm.exec) (hb : c.code = cc) (hK : va_K D vwCl tys s) (hP : va_P D vwCl ws H) (q0 t0 : Nat) (ha : ws[q0]? = some (a, .inl (cA, n, .inl f))) (ht : tys[t0]? = some (cA, .byte)) (hdg : decode cc pc = .ok (.baload, 1))
    (kk : W p l e R s m args below meth c H locs cells slots Q (F0 m (pc + 1) ls (.int (f i) :: rest))) (hi : i < n := by omega) (hn : n ≤ 2147483647 := by omega) : W p l e R s m args below meth c H locs cells slots Q (F0 m pc ls (.int (iI (i : Int)) :: .ref a :: rest)) :=
  va_bald hx hb hK hP q0 t0 ha ht (ix_in hi hn) hdg (by rw [ix_cl (by omega)]; exact kk)
theorem g_zald {f : Nat → Int32} (hx : p.tables.exec = Jvm.exec) (hb : c.code = cc) (hK : va_K D vwCl tys s) (hP : va_P D vwCl ws H) (q0 t0 : Nat) (ha : ws[q0]? = some (a, .inl (cA, n, .inl f))) (ht : tys[t0]? = some (cA, .boolean)) (hdg : decode cc pc = .ok (.baload, 1))
    (kk : W p l e R s m args below meth c H locs cells slots Q (F0 m (pc + 1) ls (.int (f i) :: rest))) (hi : i < n := by omega) (hn : n ≤ 2147483647 := by omega) : W p l e R s m args below meth c H locs cells slots Q (F0 m pc ls (.int (iI (i : Int)) :: .ref a :: rest)) :=
  va_zald hx hb hK hP q0 t0 ha ht (ix_in hi hn) hdg (by rw [ix_cl (by omega)]; exact kk)
theorem g_lald {f : Nat → Int64} (hx : p.tables.exec = Jvm.exec) (hb : c.code = cc) (hK : va_K D vwCl tys s) (hP : va_P D vwCl ws H) (q0 t0 : Nat) (ha : ws[q0]? = some (a, .inl (cA, n, .inr (.inl f)))) (ht : tys[t0]? = some (cA, .long)) (hdg : decode cc pc = .ok (.laload, 1))
    (kk : W p l e R s m args below meth c H locs cells slots Q (F0 m (pc + 1) ls (.long (f i) :: rest))) (hi : i < n := by omega) (hn : n ≤ 2147483647 := by omega) : W p l e R s m args below meth c H locs cells slots Q (F0 m pc ls (.int (iI (i : Int)) :: .ref a :: rest)) :=
  va_lald hx hb hK hP q0 t0 ha ht (ix_in hi hn) hdg (by rw [ix_cl (by omega)]; exact kk)
/-- a reference out of an array of references, of objects or of arrays -/
theorem g_aald {f : Nat → Option Nat} {q : Nat} {tyC : FieldType} (hx : p.tables.exec = Jvm.exec) (hb : c.code = cc) (hK : va_K D vwCl tys s) (hP : va_P D vwCl ws H) (q0 t0 : Nat) (ha : ws[q0]? = some (a, .inl (cA, n, .inr (.inr (.inr (.inr f)))))) (ht : tys[t0]? = some (cA, tyC)) (hrt : tyC.isReference = true) (hq : f i = some q) (hdg : decode cc pc = .ok (.aaload, 1))
    (kk : W p l e R s m args below meth c H locs cells slots Q (F0 m (pc + 1) ls (.ref q :: rest))) (hi : i < n := by omega) (hn : n ≤ 2147483647 := by omega) : W p l e R s m args below meth c H locs cells slots Q (F0 m pc ls (.int (iI (i : Int)) :: .ref a :: rest)) := by
  have hin := ix_in hi hn
  have hlt : (iI (i : Int)).toNatClampNeg < n := by rw [ix_cl (by omega)]; exact hi
  have e : f (iI (i : Int)).toNatClampNeg = some q := by rw [ix_cl (by omega)]; exact hq
  exact W.aald (v := .ref q) (ty := tyC) hx hb (hP q0 _ ha) ((hK.2 t0 _ ht).1 n (fun j => va_rf (f j))) hrt (fun q => by cases q) (by show ¬ (iI (i : Int) < 0 ∨ (arrV _ _ _).slots.size ≤ _); rw [arrV_size]; exact hin) (by show (arrV _ _ _).slots[_]? = _; rw [arrV_read _ _ hlt, e]; rfl) rfl rfl hdg kk
theorem g_iast {f : Nat → Int32} {x : Int32} (hx : p.tables.exec = Jvm.exec) (hb : c.code = cc) (hK : va_K D vwCl tys s) (hP : va_P D vwCl ws H) (hD : va_D A ws) (hS : va_S A H0 H locs) (q0 t0 : Nat) (ha : ws[q0]? = some (a, .inl (cA, n, .inl f))) (ht : tys[t0]? = some (cA, .int)) (hdg : decode cc pc = .ok (.iastore, 1))
    (kk : ∀ (H1 : Heap) (locs1 : List Loc), va_P D vwCl (ws.set q0 (a, .inl (cA, n, .inl (upd f i x)))) H1 → va_D A (ws.set q0 (a, .inl (cA, n, .inl (upd f i x)))) → va_S A H0 H1 locs1 → W p l e R s m args below meth c H1 locs1 cells slots Q (F0 m (pc + 1) ls rest)) (hi : i < n := by omega) (hn : n ≤ 2147483647 := by omega) : W p l e R s m args below meth c H locs cells slots Q (F0 m pc ls (.int x :: .int (iI (i : Int)) :: .ref a :: rest)) :=
  va_iast hx hb hK hP hD hS q0 t0 ha ht (ix_in hi hn) hdg (by rw [ix_cl (by omega)]; exact kk)
theorem g_bast {f : Nat → Int32} {x : Int32} (hx : p.tables.exec = Jvm.exec) (hb : c.code = cc) (hK : va_K D vwCl tys s) (hP : va_P D vwCl ws H) (hD : va_D A ws) (hS : va_S A H0 H locs) (q0 t0 : Nat) (ha : ws[q0]? = some (a, .inl (cA, n, .inl f))) (ht : tys[t0]? = some (cA, .byte)) (hdg : decode cc pc = .ok (.bastore, 1))
    (kk : ∀ (H1 : Heap) (locs1 : List Loc), va_P D vwCl (ws.set q0 (a, .inl (cA, n, .inl (upd f i x)))) H1 → va_D A (ws.set q0 (a, .inl (cA, n, .inl (upd f i x)))) → va_S A H0 H1 locs1 → W p l e R s m args below meth c H1 locs1 cells slots Q (F0 m (pc + 1) ls rest)) (hxn : vp_nar .byte x = x) (hi : i < n := by omega) (hn : n ≤ 2147483647 := by omega) : W p l e R s m args below meth c H locs cells slots Q (F0 m pc ls (.int x :: .int (iI (i : Int)) :: .ref a :: rest)) :=
  va_bast hx hb hK hP hD hS q0 t0 ha ht (ix_in hi hn) hdg (by rw [ix_cl (by omega), hxn]; exact kk)
theorem g_zast {f : Nat → Int32} {x : Int32} (hx : p.tables.exec = Jvm.exec) (hb : c.code = cc) (hK : va_K D vwCl tys s) (hP : va_P D vwCl ws H) (hD : va_D A ws) (hS : va_S A H0 H locs) (q0 t0 : Nat) (ha : ws[q0]? = some (a, .inl (cA, n, .inl f))) (ht : tys[t0]? = some (cA, .boolean)) (hdg : decode cc pc = .ok (.bastore, 1))
    (kk : ∀ (H1 : Heap) (locs1 : List Loc), va_P D vwCl (ws.set q0 (a, .inl (cA, n, .inl (upd f i x)))) H1 → va_D A (ws.set q0 (a, .inl (cA, n, .inl (upd f i x)))) → va_S A H0 H1 locs1 → W p l e R s m args below meth c H1 locs1 cells slots Q (F0 m (pc + 1) ls rest)) (hxn : vp_nar .boolean x = x) (hi : i < n := by omega) (hn : n ≤ 2147483647 := by omega) : W p l e R s m args below meth c H locs cells slots Q (F0 m pc ls (.int x :: .int (iI (i : Int)) :: .ref a :: rest)) :=
  va_zast hx hb hK hP hD hS q0 t0 ha ht (ix_in hi hn) hdg (by rw [ix_cl (by omega), hxn]; exact kk)
theorem g_last {f : Nat → Int64} {x : Int64} (hx : p.tables.exec = Jvm.exec) (hb : c.code = cc) (hK : va_K D vwCl tys s) (hP : va_P D vwCl ws H) (hD : va_D A ws) (hS : va_S A H0 H locs) (q0 t0 : Nat) (ha : ws[q0]? = some (a, .inl (cA, n, .inr (.inl f)))) (ht : tys[t0]? = some (cA, .long)) (hdg : decode cc pc = .ok (.lastore, 1))
    (kk : ∀ (H1 : Heap) (locs1 : List Loc), va_P D vwCl (ws.set q0 (a, .inl (cA, n, .inr (.inl (vp_updL f i x))))) H1 → va_D A (ws.set q0 (a, .inl (cA, n, .inr (.inl (vp_updL f i x))))) → va_S A H0 H1 locs1 → W p l e R s m args below meth c H1 locs1 cells slots Q (F0 m (pc + 1) ls rest)) (hi : i < n := by omega) (hn : n ≤ 2147483647 := by omega) : W p l e R s m args below meth c H locs cells slots Q (F0 m pc ls (.long x :: .int (iI (i : Int)) :: .ref a :: rest)) :=
  va_last hx hb hK hP hD hS q0 t0 ha ht (ix_in hi hn) hdg (by rw [ix_cl (by omega)]; exact kk)
theorem nil_P : va_P D vwCl [] H := fun k q h => by simp at h
theorem nil_D {B : Nat → Prop} : va_D B [] := ⟨fun i j x y h => by simp at h, fun k q h => by simp at h⟩
end GH
end
section
/-! The Gregorian calendar, a rule's moments, and what lies before and behind a time: mathematics alone. -/
def cLeap (y : Int) : Bool := y % 4 == 0 && (!(y % 100 == 0) || y % 400 == 0)
def cLen (y m : Int) : Int := if m = 2 then (if cLeap y then 29 else 28) else if m = 4 ∨ m = 6 ∨ m = 9 ∨ m = 11 then 30 else 31
def cYear (y : Int) : Int := 365 * (y - 1970) + ((y - 1) / 4 - (y - 1) / 100 + (y - 1) / 400 - 477)
def cFirst (y : Int) : Nat → Int
  | 0 => cYear y
  | k + 1 => cFirst y k + cLen y (k + 1)
/-- the first day of a month -/
def cFD (y m : Int) : Int := cFirst y (m - 1).toNat
theorem cLen_lo (y m : Int) : 28 ≤ cLen y m := by unfold cLen; (repeat' split) <;> omega
theorem cLen_hi (y m : Int) : cLen y m ≤ 31 := by unfold cLen; (repeat' split) <;> omega
theorem cFD_1 (y : Int) : cFD y 1 = cYear y := rfl
theorem cFD_succ (y : Int) {m : Int} (h : 1 ≤ m) : cFD y (m + 1) = cFD y m + cLen y m := by
  obtain ⟨k, rfl⟩ : ∃ k : Nat, m = k + 1 := ⟨(m - 1).toNat, by omega⟩
  unfold cFD
  rw [show ((k : Int) + 1 + 1 - 1).toNat = k + 1 from by omega, show ((k : Int) + 1 - 1).toNat = k from by omega]
  rfl
theorem cYear_succ (y : Int) : cYear (y + 1) = cYear y + 365 + (if cLeap y then 1 else 0) := by
  unfold cYear cLeap
  by_cases h4 : y % 4 = 0 <;> by_cases h1 : y % 100 = 0 <;> by_cases h400 : y % 400 = 0 <;> simp [h4, h1, h400] <;> omega
theorem cFirst_12 (y : Int) : cFirst y 12 = cYear (y + 1) := by
  rw [cYear_succ]
  simp only [cFirst, cLen]
  cases cLeap y <;> simp <;> omega
theorem cFirst_up (y : Int) {j k : Nat} (h : j ≤ k) : cFirst y j + 28 * (k - j : Nat) ≤ cFirst y k := by
  induction k with
  | zero => obtain rfl : j = 0 := by omega
            simp
  | succ k ih =>
    by_cases hj : j = k + 1
    · subst hj; simp
    · have h1 := ih (by omega)
      have h2 := cLen_lo y (k + 1)
      show cFirst y j + 28 * ((k + 1 - j : Nat) : Int) ≤ cFirst y k + cLen y (k + 1)
      omega
/-- a month lies in its year -/
theorem cFD_lo (y : Int) {m : Int} (h1 : 1 ≤ m) : cYear y ≤ cFD y m := by
  have := cFirst_up y (j := 0) (k := (m - 1).toNat) (by omega)
  unfold cFD
  simp only [cFirst] at this
  omega
theorem cFD_hi (y : Int) {m : Int} (h1 : 1 ≤ m) (h2 : m ≤ 12) : cFD y m + cLen y m ≤ cYear (y + 1) := by
  rw [← cFirst_12, ← cFD_succ y h1]
  unfold cFD
  have := cFirst_up y (j := (m + 1 - 1).toNat) (k := 12) (by omega)
  omega
theorem cYear_lo {y : Int} (h1 : 1969 ≤ y) (h2 : y ≤ 2400) : 365 * (y - 1970) ≤ cYear y := by unfold cYear; omega
theorem cYear_hi {y : Int} (h1 : 1900 ≤ y) (h2 : y ≤ 2310) : cYear y ≤ 365 * (y - 1970) + 90 := by unfold cYear; omega
theorem cYear_b {y : Int} (h1 : 1900 ≤ y) (h2 : y ≤ 2400) : -30000 ≤ cYear y ∧ cYear y ≤ 160000 := by unfold cYear; omega
/-- the year of a day -/
def cY (d : Int) : Int := if cYear (1970 + d / 365) > d then 1970 + d / 365 - 1 else 1970 + d / 365
theorem cY_lo {d : Int} (h1 : -365 ≤ d) (h2 : d ≤ 122000) : cYear (cY d) ≤ d := by
  unfold cY
  split
  · have := cYear_hi (y := 1970 + d / 365 - 1) (by omega) (by omega)
    omega
  · omega
theorem cY_hi {d : Int} (h1 : -365 ≤ d) (h2 : d ≤ 122000) : d < cYear (cY d + 1) := by
  unfold cY
  split
  · rw [show 1970 + d / 365 - 1 + 1 = 1970 + d / 365 from by omega]; omega
  · have := cYear_lo (y := 1970 + d / 365 + 1) (by omega) (by omega)
    omega
theorem cY_b {d : Int} (h1 : -365 ≤ d) (h2 : d ≤ 122000) : 1969 ≤ cY d ∧ cY d ≤ 2305 := by
  unfold cY
  split
  · rename_i h
    have := cYear_hi (y := 1970 + d / 365) (by omega) (by omega)
    refine ⟨?_, by omega⟩
    by_cases h3 : d / 365 = -1
    · rw [h3] at h
      have : cYear (1970 + -1) = -365 := by decide
      omega
    · omega
  · omega
theorem cYear_mono {a b : Int} (h : a < b) : cYear a + 365 ≤ cYear b := by
  obtain ⟨k, rfl⟩ : ∃ k : Nat, b = a + 1 + k := ⟨(b - a - 1).toNat, by omega⟩
  clear h
  induction k with
  | zero => have := cYear_succ a; split at this <;> simp <;> omega
  | succ k ih =>
    have := cYear_succ (a + 1 + (k : Int))
    rw [show a + 1 + ((k + 1 : Nat) : Int) = a + 1 + (k : Int) + 1 from by omega]
    split at this <;> omega
theorem cY_unique {d y : Int} (h1 : -365 ≤ d) (h2 : d ≤ 122000) (h3 : cYear y ≤ d) (h4 : d < cYear (y + 1)) : cY d = y := by
  have a := cY_lo h1 h2
  have b := cY_hi h1 h2
  by_cases q1 : cY d < y
  · have := cYear_mono (a := cY d + 1) (b := y)
    by_cases q2 : cY d + 1 = y
    · rw [q2] at b; omega
    · have := this (by omega); omega
  · by_cases q3 : y < cY d
    · have := cYear_mono (a := y + 1) (b := cY d)
      by_cases q2 : y + 1 = cY d
      · rw [q2] at h4; omega
      · have := this (by omega); omega
    · omega
/-- the weekday of a day, 0: Sunday -/
def cWd (d : Int) : Int := (d + 4) % 7
/-- a rule: month, week, weekday (0: Sunday), minute; its day in a year -/
def rK (mo wk wd y : Int) : Int := (wd - cWd (cFD y mo)) % 7 + 7 * (wk - 1)
def rDay (mo wk wd y : Int) : Int := cFD y mo + (if cLen y mo ≤ rK mo wk wd y then rK mo wk wd y - 7 else rK mo wk wd y)
def rMom (mo wk wd mi y : Int) : Int := rDay mo wk wd y * 86400000 + mi * 60000
def rOk (mo wk wd mi : Int) : Prop := 1 ≤ mo ∧ mo ≤ 12 ∧ 1 ≤ wk ∧ wk ≤ 5 ∧ 0 ≤ wd ∧ wd ≤ 6 ∧ 0 ≤ mi ∧ mi ≤ 1439
theorem rDay_lo {mo wk wd mi : Int} (h : rOk mo wk wd mi) (y : Int) : cYear y ≤ rDay mo wk wd y := by
  obtain ⟨h1, h2, h3, h4, h5, h6, h7, h8⟩ := h
  have a := cFD_lo y h1
  have b := cLen_lo y mo
  unfold rDay
  split <;> unfold rK at * <;> omega
theorem rDay_hi {mo wk wd mi : Int} (h : rOk mo wk wd mi) (y : Int) : rDay mo wk wd y < cYear (y + 1) := by
  obtain ⟨h1, h2, h3, h4, h5, h6, h7, h8⟩ := h
  have a := cFD_hi y h1 h2
  have b := cLen_lo y mo
  unfold rDay
  split <;> unfold rK at * <;> omega
theorem rMom_lo {mo wk wd mi : Int} (h : rOk mo wk wd mi) (y : Int) : cYear y * 86400000 ≤ rMom mo wk wd mi y := by
  have a := rDay_lo h y
  obtain ⟨h1, h2, h3, h4, h5, h6, h7, h8⟩ := h
  unfold rMom
  omega
theorem rMom_hi {mo wk wd mi : Int} (h : rOk mo wk wd mi) (y : Int) : rMom mo wk wd mi y < cYear (y + 1) * 86400000 := by
  have a := rDay_hi h y
  obtain ⟨h1, h2, h3, h4, h5, h6, h7, h8⟩ := h
  unfold rMom
  omega
theorem rMom_mono {mo wk wd mi : Int} (h : rOk mo wk wd mi) {a b : Int} (hab : a < b) : rMom mo wk wd mi a < rMom mo wk wd mi b := by
  have h1 := rMom_hi h a
  have h2 := rMom_lo h b
  by_cases q : a + 1 = b
  · rw [q] at h1; omega
  · have := cYear_mono (a := a + 1) (b := b) (by omega)
    omega
/-- the last of a rule's moments not behind t, by the clock that runs sh minutes ahead -/
def rLast (mo wk wd mi t sh : Int) : Int :=
  let ck := t + sh * 60000
  let y := min (cY (ck / 86400000)) 2299
  let z := if rMom mo wk wd mi y > ck then y - 1 else y
  if z < 1970 then -1000000000000000 else rMom mo wk wd mi z - sh * 60000
def rNext (mo wk wd mi t sh : Int) : Int :=
  let ck := t + sh * 60000
  let y := max (cY (ck / 86400000)) 1970
  let z := if rMom mo wk wd mi y ≤ ck then y + 1 else y
  if z > 2299 then 1000000000000000 else rMom mo wk wd mi z - sh * 60000
/-- which moment rLast is -/
theorem rLast_is {mo wk wd mi t sh : Int} (h : rOk mo wk wd mi) (h1 : -31536000000 ≤ t + sh * 60000) (h2 : t + sh * 60000 ≤ 10540000000000) :
    (rLast mo wk wd mi t sh = -1000000000000000 ∧ ∀ y, 1970 ≤ y → y ≤ 2299 → t < rMom mo wk wd mi y - sh * 60000) ∨
    (∃ z, 1970 ≤ z ∧ z ≤ 2299 ∧ rLast mo wk wd mi t sh = rMom mo wk wd mi z - sh * 60000 ∧ rMom mo wk wd mi z - sh * 60000 ≤ t ∧ ∀ y, 1970 ≤ y → y ≤ 2299 → rMom mo wk wd mi y - sh * 60000 ≤ t → y ≤ z) := by
  generalize hck : t + sh * 60000 = ck at h1 h2
  have hd1 : -365 ≤ ck / 86400000 := by omega
  have hd2 : ck / 86400000 ≤ 122000 := by omega
  have a := cY_lo hd1 hd2
  have b := cY_hi hd1 hd2
  have hb := cY_b hd1 hd2
  generalize hY : cY (ck / 86400000) = Y at a b hb
  have up : ∀ y, Y < y → ck < rMom mo wk wd mi y := by
    intro y hy
    have q := rMom_lo h y
    by_cases e : Y + 1 = y
    · rw [e] at b; omega
    · have := cYear_mono (a := Y + 1) (b := y) (by omega); omega
  have dn : ∀ y, y < Y → rMom mo wk wd mi y ≤ ck := by
    intro y hy
    have q := rMom_hi h y
    by_cases e : y + 1 = Y
    · rw [e] at q; omega
    · have := cYear_mono (a := y + 1) (b := Y) (by omega); omega
  unfold rLast
  simp only [hck, hY]
  by_cases c1 : Y ≤ 2299
  · rw [show min Y 2299 = Y from by omega]
    by_cases c2 : rMom mo wk wd mi Y > ck
    · rw [if_pos c2]
      by_cases c3 : Y - 1 < 1970
      · rw [if_pos c3]
        refine Or.inl ⟨rfl, fun y y1 y2 => ?_⟩
        by_cases e : y = Y
        · rw [e]; omega
        · have := up y (by omega); omega
      · rw [if_neg c3]
        refine Or.inr ⟨Y - 1, by omega, by omega, rfl, ?_, fun y y1 y2 y3 => ?_⟩
        · have := dn (Y - 1) (by omega); omega
        · by_cases e : Y ≤ y
          · exfalso
            by_cases e2 : y = Y
            · rw [e2] at y3; omega
            · have := up y (by omega); omega
          · omega
    · rw [if_neg c2]
      by_cases c3 : Y < 1970
      · rw [if_pos c3]
        refine Or.inl ⟨rfl, fun y y1 y2 => ?_⟩
        have := up y (by omega); omega
      · rw [if_neg c3]
        refine Or.inr ⟨Y, by omega, by omega, rfl, by omega, fun y y1 y2 y3 => ?_⟩
        by_cases e : Y < y
        · have := up y e; omega
        · omega
  · rw [show min Y 2299 = 2299 from by omega]
    have := dn 2299 (by omega)
    rw [if_neg (by omega), if_neg (by omega)]
    exact Or.inr ⟨2299, by omega, by omega, rfl, by omega, fun y _ y2 _ => y2⟩
theorem rNext_is {mo wk wd mi t sh : Int} (h : rOk mo wk wd mi) (h1 : -31536000000 ≤ t + sh * 60000) (h2 : t + sh * 60000 ≤ 10540000000000) :
    (rNext mo wk wd mi t sh = 1000000000000000 ∧ ∀ y, 1970 ≤ y → y ≤ 2299 → rMom mo wk wd mi y - sh * 60000 ≤ t) ∨
    (∃ z, 1970 ≤ z ∧ z ≤ 2299 ∧ rNext mo wk wd mi t sh = rMom mo wk wd mi z - sh * 60000 ∧ t < rMom mo wk wd mi z - sh * 60000 ∧ ∀ y, 1970 ≤ y → y ≤ 2299 → t < rMom mo wk wd mi y - sh * 60000 → z ≤ y) := by
  generalize hck : t + sh * 60000 = ck at h1 h2
  have hd1 : -365 ≤ ck / 86400000 := by omega
  have hd2 : ck / 86400000 ≤ 122000 := by omega
  have a := cY_lo hd1 hd2
  have b := cY_hi hd1 hd2
  have hb := cY_b hd1 hd2
  generalize hY : cY (ck / 86400000) = Y at a b hb
  have up : ∀ y, Y < y → ck < rMom mo wk wd mi y := by
    intro y hy
    have q := rMom_lo h y
    by_cases e : Y + 1 = y
    · rw [e] at b; omega
    · have := cYear_mono (a := Y + 1) (b := y) (by omega); omega
  have dn : ∀ y, y < Y → rMom mo wk wd mi y ≤ ck := by
    intro y hy
    have q := rMom_hi h y
    by_cases e : y + 1 = Y
    · rw [e] at q; omega
    · have := cYear_mono (a := y + 1) (b := Y) (by omega); omega
  unfold rNext
  simp only [hck, hY]
  by_cases c1 : 1970 ≤ Y
  · rw [show max Y 1970 = Y from by omega]
    by_cases c2 : rMom mo wk wd mi Y ≤ ck
    · rw [if_pos c2]
      by_cases c3 : Y + 1 > 2299
      · rw [if_pos c3]
        refine Or.inl ⟨rfl, fun y y1 y2 => ?_⟩
        by_cases e : y = Y
        · rw [e]; omega
        · have := dn y (by omega); omega
      · rw [if_neg c3]
        refine Or.inr ⟨Y + 1, by omega, by omega, rfl, ?_, fun y y1 y2 y3 => ?_⟩
        · have := up (Y + 1) (by omega); omega
        · by_cases e : y ≤ Y
          · exfalso
            by_cases e2 : y = Y
            · rw [e2] at y3; omega
            · have := dn y (by omega); omega
          · omega
    · rw [if_neg c2]
      by_cases c3 : Y > 2299
      · rw [if_pos c3]
        refine Or.inl ⟨rfl, fun y y1 y2 => ?_⟩
        have := dn y (by omega); omega
      · rw [if_neg c3]
        refine Or.inr ⟨Y, by omega, by omega, rfl, by omega, fun y y1 y2 y3 => ?_⟩
        by_cases e : y < Y
        · have := dn y e; omega
        · omega
  · rw [show max Y 1970 = 1970 from by omega]
    have := up 1970 (by omega)
    rw [if_neg (by omega), if_neg (by omega)]
    exact Or.inr ⟨1970, by omega, by omega, rfl, by omega, fun y y1 _ _ => y1⟩
end
section
/-! A sorted list of events (begin before end where the times are the same), its making by insertion, and the search in it: mathematics alone. -/
def evS (n : Nat) (E : Nat → Int) (G : Nat → Bool) : Prop := ∀ i j, i < j → j < n → E i < E j ∨ (E i = E j ∧ (G j = true → G i = true))
def evM (n : Nat) (E : Nat → Int) (G : Nat → Bool) (P : Int → Bool → Prop) : Prop := (∀ i, i < n → P (E i) (G i)) ∧ ∀ v b, P v b → ∃ i, i < n ∧ E i = v ∧ G i = b
/-- the entry must give way -/
def evC (v w : Int) (b g : Bool) : Prop := v > w ∨ (v = w ∧ b = true ∧ g = false)
def evIns {α : Type} (F : Nat → α) (k : Nat) (x : α) : Nat → α := fun j => if j < k then F j else if j = k then x else F (j - 1)
theorem evIns_lo {α : Type} {F : Nat → α} {k : Nat} {x : α} {j : Nat} (h : j < k) : evIns F k x j = F j := by simp [evIns, h]
theorem evIns_at {α : Type} {F : Nat → α} {k : Nat} {x : α} : evIns F k x k = x := by simp [evIns]
theorem evIns_hi {α : Type} {F : Nat → α} {k : Nat} {x : α} {j : Nat} (h : k < j) : evIns F k x j = F (j - 1) := by
  simp [evIns, show ¬ j < k from by omega, show ¬ j = k from by omega]
theorem evS_ins {n k : Nat} {E : Nat → Int} {G : Nat → Bool} {w : Int} {b : Bool} (hs : evS n E G) (hk : k ≤ n) (hc : ∀ j, k ≤ j → j < n → evC (E j) w b (G j)) (hx : k = 0 ∨ ¬ evC (E (k - 1)) w b (G (k - 1))) :
    evS (n + 1) (evIns E k w) (evIns G k b) := by
  intro i j hij hj
  have lo : ∀ i, i < k → E i < w ∨ (E i = w ∧ (b = true → G i = true)) := by
    intro i hi
    rcases hx with h0 | hx
    · omega
    · have hx1 : ¬ E (k - 1) > w := fun q => hx (Or.inl q)
      have hx2 : ¬ (E (k - 1) = w ∧ b = true ∧ G (k - 1) = false) := fun q => hx (Or.inr q)
      by_cases e : i = k - 1
      · subst e
        by_cases q : E (k - 1) < w
        · exact Or.inl q
        · refine Or.inr ⟨by omega, fun hb => ?_⟩
          cases hg : G (k - 1) with
          | true => rfl
          | false => exact absurd ⟨by omega, hb, hg⟩ hx2
      · rcases hs i (k - 1) (by omega) (by omega) with q | ⟨q1, q2⟩
        · exact Or.inl (by omega)
        · by_cases q : E (k - 1) < w
          · exact Or.inl (by omega)
          · refine Or.inr ⟨by omega, fun hb => q2 ?_⟩
            cases hg : G (k - 1) with
            | true => rfl
            | false => exact absurd ⟨by omega, hb, hg⟩ hx2
  by_cases h1 : j < k
  · rw [evIns_lo (show i < k by omega), evIns_lo h1, evIns_lo (show i < k by omega), evIns_lo h1]
    exact hs i j hij (by omega)
  · by_cases h2 : j = k
    · subst h2
      rw [evIns_lo hij, evIns_at, evIns_lo hij, evIns_at]
      exact lo i hij
    · rw [evIns_hi (show k < j by omega), evIns_hi (show k < j by omega)]
      have hc1 := hc (j - 1) (by omega) (by omega)
      by_cases h3 : i < k
      · rw [evIns_lo h3, evIns_lo h3]
        exact hs i (j - 1) (by omega) (by omega)
      · by_cases h4 : i = k
        · subst h4
          rw [evIns_at, evIns_at]
          rcases hc1 with q | ⟨q1, q2, q3⟩
          · exact Or.inl (by omega)
          · exact Or.inr ⟨by omega, fun _ => q2⟩
        · rw [evIns_hi (show k < i by omega), evIns_hi (show k < i by omega)]
          exact hs (i - 1) (j - 1) (by omega) (by omega)
theorem evM_ins {n k : Nat} {E : Nat → Int} {G : Nat → Bool} {w : Int} {b : Bool} {P : Int → Bool → Prop} (hm : evM n E G P) (hk : k ≤ n) :
    evM (n + 1) (evIns E k w) (evIns G k b) (fun v c => P v c ∨ (v = w ∧ c = b)) := by
  refine ⟨fun i hi => ?_, fun v c h => ?_⟩
  · by_cases h1 : i < k
    · rw [evIns_lo h1, evIns_lo h1]; exact Or.inl (hm.1 i (by omega))
    · by_cases h2 : i = k
      · subst h2; rw [evIns_at, evIns_at]; exact Or.inr ⟨rfl, rfl⟩
      · rw [evIns_hi (show k < i by omega), evIns_hi (show k < i by omega)]; exact Or.inl (hm.1 (i - 1) (by omega))
  · rcases h with h | ⟨h1, h2⟩
    · obtain ⟨i, hi, e1, e2⟩ := hm.2 v c h
      by_cases q : i < k
      · exact ⟨i, by omega, by rw [evIns_lo q]; exact e1, by rw [evIns_lo q]; exact e2⟩
      · exact ⟨i + 1, by omega, by rw [evIns_hi (show k < i + 1 by omega)]; exact e1, by rw [evIns_hi (show k < i + 1 by omega)]; exact e2⟩
    · exact ⟨k, by omega, by rw [evIns_at, h1], by rw [evIns_at, h2]⟩
/-- how many events have passed -/
def evK (E : Nat → Int) (t : Int) : Nat → Nat
  | 0 => 0
  | n + 1 => if E n ≤ t then n + 1 else evK E t n
theorem evK_le (E : Nat → Int) (t : Int) : ∀ n, evK E t n ≤ n
  | 0 => Nat.le_refl 0
  | n + 1 => by
    unfold evK
    split
    · exact Nat.le_refl _
    · exact Nat.le_succ_of_le (evK_le E t n)
theorem evK_of {E : Nat → Int} {t : Int} : ∀ {n k : Nat}, k ≤ n → (∀ i, i < k → E i ≤ t) → (∀ i, k ≤ i → i < n → t < E i) → evK E t n = k
  | 0, k, h, _, _ => by simp [evK]; omega
  | n + 1, k, h, h1, h2 => by
    unfold evK
    split
    · rename_i q
      by_cases e : k = n + 1
      · exact e.symm
      · have := h2 n (by omega) (by omega); omega
    · rename_i q
      by_cases e : k = n + 1
      · have := h1 n (by omega); omega
      · exact evK_of (by omega) h1 (fun i a b => h2 i a (by omega))
theorem evK_lo {n : Nat} {E : Nat → Int} {G : Nat → Bool} {t : Int} (hs : evS n E G) : ∀ i, i < evK E t n → E i ≤ t := by
  induction n with
  | zero => intro i hi; simp [evK] at hi
  | succ n ih =>
    intro i hi
    unfold evK at hi
    split at hi
    · rename_i q
      by_cases e : i = n
      · rw [e]; exact q
      · rcases hs i n (by omega) (by omega) with h | ⟨h, -⟩ <;> omega
    · exact ih (fun a b c d => hs a b c (by omega)) i hi
theorem evK_hi {n : Nat} {E : Nat → Int} {t : Int} : ∀ i, evK E t n ≤ i → i < n → t < E i := by
  induction n with
  | zero => intro i _ hi; omega
  | succ n ih =>
    intro i h1 hi
    unfold evK at h1
    split at h1
    · omega
    · rename_i q
      by_cases e : i = n
      · rw [e]; omega
      · exact ih i h1 (by omega)
/-- the events of two rows of times -/
def evP (lo hi : Int) (Bv Ev : Int → Int) (v : Int) (b : Bool) : Prop := ∃ y, lo ≤ y ∧ y ≤ hi ∧ ((b = true ∧ v = Bv y) ∨ (b = false ∧ v = Ev y))
def evL (lo hi X t : Int) (Bv : Int → Int) (lb : Int) : Prop := (lb = -X ∧ ∀ y, lo ≤ y → y ≤ hi → t < Bv y) ∨ (∃ z, lo ≤ z ∧ z ≤ hi ∧ lb = Bv z ∧ Bv z ≤ t ∧ ∀ y, lo ≤ y → y ≤ hi → Bv y ≤ t → Bv y ≤ Bv z)
def evN (lo hi X t : Int) (Bv : Int → Int) (nb : Int) : Prop := (nb = X ∧ ∀ y, lo ≤ y → y ≤ hi → Bv y ≤ t) ∨ (∃ z, lo ≤ z ∧ z ≤ hi ∧ nb = Bv z ∧ t < Bv z ∧ ∀ y, lo ≤ y → y ≤ hi → t < Bv y → Bv z ≤ Bv y)
section EV
variable {n : Nat} {E : Nat → Int} {G : Nat → Bool} {lo hi X t lb le nb ne : Int} {Bv Ev : Int → Int}
theorem ev_last (hs : evS n E G) (hm : evM n E G (evP lo hi Bv Ev)) (hX1 : ∀ y, lo ≤ y → y ≤ hi → -X < Bv y) (hX2 : ∀ y, lo ≤ y → y ≤ hi → -X < Ev y) (hb : evL lo hi X t Bv lb) (he : evL lo hi X t Ev le) :
    (evK E t n = 0 ∧ lb = -X ∧ le = -X) ∨ (0 < evK E t n ∧ evK E t n - 1 < n ∧ max lb le = E (evK E t n - 1) ∧ (G (evK E t n - 1) = true ↔ le < lb)) := by
  have klo := evK_lo (t := t) hs
  have khi := evK_hi (n := n) (E := E) (t := t)
  have kle := evK_le E t n
  generalize hk : evK E t n = k at klo khi kle
  by_cases h0 : k = 0
  · refine Or.inl ⟨h0, ?_, ?_⟩
    · rcases hb with ⟨h, -⟩ | ⟨z, z1, z2, z3, z4, -⟩
      · exact h
      · obtain ⟨i, i1, i2, -⟩ := hm.2 (Bv z) true ⟨z, z1, z2, Or.inl ⟨rfl, rfl⟩⟩
        have := khi i (by omega) i1; omega
    · rcases he with ⟨h, -⟩ | ⟨z, z1, z2, z3, z4, -⟩
      · exact h
      · obtain ⟨i, i1, i2, -⟩ := hm.2 (Ev z) false ⟨z, z1, z2, Or.inr ⟨rfl, rfl⟩⟩
        have := khi i (by omega) i1; omega
  · refine Or.inr ⟨by omega, by omega, ?_⟩
    have top : ∀ i, i < n → E i ≤ t → E i ≤ E (k - 1) := by
      intro i h1 h2
      by_cases q : k ≤ i
      · have := khi i q h1; omega
      · by_cases e : i = k - 1
        · rw [e]; omega
        · rcases hs i (k - 1) (by omega) (by omega) with h | ⟨h, -⟩ <;> omega
    have hlast := klo (k - 1) (by omega)
    have lbt : lb ≤ E (k - 1) := by
      rcases hb with ⟨h, -⟩ | ⟨z, z1, z2, z3, z4, -⟩
      · obtain ⟨y, y1, y2, ⟨-, y3⟩ | ⟨-, y3⟩⟩ := hm.1 (k - 1) (by omega)
        · have := hX1 y y1 y2; omega
        · have := hX2 y y1 y2; omega
      · obtain ⟨i, i1, i2, -⟩ := hm.2 (Bv z) true ⟨z, z1, z2, Or.inl ⟨rfl, rfl⟩⟩
        have := top i i1 (by omega); omega
    have let' : le ≤ E (k - 1) := by
      rcases he with ⟨h, -⟩ | ⟨z, z1, z2, z3, z4, -⟩
      · obtain ⟨y, y1, y2, ⟨-, y3⟩ | ⟨-, y3⟩⟩ := hm.1 (k - 1) (by omega)
        · have := hX1 y y1 y2; omega
        · have := hX2 y y1 y2; omega
      · obtain ⟨i, i1, i2, -⟩ := hm.2 (Ev z) false ⟨z, z1, z2, Or.inr ⟨rfl, rfl⟩⟩
        have := top i i1 (by omega); omega
    obtain ⟨y, y1, y2, ⟨g, y3⟩ | ⟨g, y3⟩⟩ := hm.1 (k - 1) (by omega)
    · have hlb : lb = E (k - 1) := by
        rcases hb with ⟨h, q⟩ | ⟨z, z1, z2, z3, z4, z5⟩
        · have := q y y1 y2; omega
        · have := z5 y y1 y2 (by omega); omega
      have hlt : le < lb := by
        rcases he with ⟨h, -⟩ | ⟨z, z1, z2, z3, z4, -⟩
        · have := hX1 y y1 y2; omega
        · obtain ⟨i, i1, i2, i3⟩ := hm.2 (Ev z) false ⟨z, z1, z2, Or.inr ⟨rfl, rfl⟩⟩
          by_cases q : k ≤ i
          · have := khi i q i1; omega
          · by_cases e : i = k - 1
            · rw [e, g] at i3; cases i3
            · rcases hs i (k - 1) (by omega) (by omega) with h | ⟨h, h2⟩
              · omega
              · rw [h2 g] at i3; cases i3
      exact ⟨by omega, by simp [g, hlt]⟩
    · have hle : le = E (k - 1) := by
        rcases he with ⟨h, q⟩ | ⟨z, z1, z2, z3, z4, z5⟩
        · have := q y y1 y2; omega
        · have := z5 y y1 y2 (by omega); omega
      exact ⟨by omega, by simp [g]; omega⟩
theorem ev_next (hs : evS n E G) (hm : evM n E G (evP lo hi Bv Ev)) (hX1 : ∀ y, lo ≤ y → y ≤ hi → Bv y < X) (hX2 : ∀ y, lo ≤ y → y ≤ hi → Ev y < X) (hb : evN lo hi X t Bv nb) (he : evN lo hi X t Ev ne) :
    (evK E t n = n ∧ min nb ne = X) ∨ (evK E t n < n ∧ min nb ne = E (evK E t n) ∧ min nb ne < X ∧ t < min nb ne) := by
  have klo := evK_lo (t := t) hs
  have khi := evK_hi (n := n) (E := E) (t := t)
  have kle := evK_le E t n
  generalize hk : evK E t n = k at klo khi kle
  by_cases h0 : k = n
  · refine Or.inl ⟨h0, ?_⟩
    have a : nb = X := by
      rcases hb with ⟨h, -⟩ | ⟨z, z1, z2, z3, z4, -⟩
      · exact h
      · obtain ⟨i, i1, i2, -⟩ := hm.2 (Bv z) true ⟨z, z1, z2, Or.inl ⟨rfl, rfl⟩⟩
        have := klo i (by omega); omega
    have b : ne = X := by
      rcases he with ⟨h, -⟩ | ⟨z, z1, z2, z3, z4, -⟩
      · exact h
      · obtain ⟨i, i1, i2, -⟩ := hm.2 (Ev z) false ⟨z, z1, z2, Or.inr ⟨rfl, rfl⟩⟩
        have := klo i (by omega); omega
    omega
  · refine Or.inr ⟨by omega, ?_⟩
    have bot : ∀ i, i < n → t < E i → E k ≤ E i := by
      intro i h1 h2
      by_cases q : i < k
      · have := klo i q; omega
      · by_cases e : i = k
        · rw [e]; omega
        · rcases hs k i (by omega) (by omega) with h | ⟨h, -⟩ <;> omega
    have hfirst := khi k (by omega) (by omega)
    have nbt : E k ≤ nb := by
      rcases hb with ⟨h, -⟩ | ⟨z, z1, z2, z3, z4, -⟩
      · obtain ⟨y, y1, y2, ⟨-, y3⟩ | ⟨-, y3⟩⟩ := hm.1 k (by omega)
        · have := hX1 y y1 y2; omega
        · have := hX2 y y1 y2; omega
      · obtain ⟨i, i1, i2, -⟩ := hm.2 (Bv z) true ⟨z, z1, z2, Or.inl ⟨rfl, rfl⟩⟩
        have := bot i i1 (by omega); omega
    have net : E k ≤ ne := by
      rcases he with ⟨h, -⟩ | ⟨z, z1, z2, z3, z4, -⟩
      · obtain ⟨y, y1, y2, ⟨-, y3⟩ | ⟨-, y3⟩⟩ := hm.1 k (by omega)
        · have := hX1 y y1 y2; omega
        · have := hX2 y y1 y2; omega
      · obtain ⟨i, i1, i2, -⟩ := hm.2 (Ev z) false ⟨z, z1, z2, Or.inr ⟨rfl, rfl⟩⟩
        have := bot i i1 (by omega); omega
    obtain ⟨y, y1, y2, ⟨g, y3⟩ | ⟨g, y3⟩⟩ := hm.1 k (by omega)
    · have e1 : nb = E k := by
        rcases hb with ⟨h, q⟩ | ⟨z, z1, z2, z3, z4, z5⟩
        · have := q y y1 y2; omega
        · have := z5 y y1 y2 (by omega); omega
      have := hX1 y y1 y2
      omega
    · have e1 : ne = E k := by
        rcases he with ⟨h, q⟩ | ⟨z, z1, z2, z3, z4, z5⟩
        · have := q y y1 y2; omega
        · have := z5 y y1 y2 (by omega); omega
      have := hX2 y y1 y2
      omega
end EV
/-- rLast and rNext in these words -/
theorem rLast_evL {mo wk wd mi t sh : Int} (h : rOk mo wk wd mi) (h1 : -31536000000 ≤ t + sh * 60000) (h2 : t + sh * 60000 ≤ 10540000000000) :
    evL 1970 2299 1000000000000000 t (fun y => rMom mo wk wd mi y - sh * 60000) (rLast mo wk wd mi t sh) := by
  rcases rLast_is h h1 h2 with ⟨a, b⟩ | ⟨z, a, b, c, d, f⟩
  · exact Or.inl ⟨a, b⟩
  · refine Or.inr ⟨z, a, b, c, d, fun y y1 y2 y3 => ?_⟩
    have := f y y1 y2 y3
    by_cases e : y = z
    · rw [e]; exact Int.le_refl _
    · have := rMom_mono h (a := y) (b := z) (by omega)
      show rMom mo wk wd mi y - sh * 60000 ≤ rMom mo wk wd mi z - sh * 60000
      omega
theorem rNext_evN {mo wk wd mi t sh : Int} (h : rOk mo wk wd mi) (h1 : -31536000000 ≤ t + sh * 60000) (h2 : t + sh * 60000 ≤ 10540000000000) :
    evN 1970 2299 1000000000000000 t (fun y => rMom mo wk wd mi y - sh * 60000) (rNext mo wk wd mi t sh) := by
  rcases rNext_is h h1 h2 with ⟨a, b⟩ | ⟨z, a, b, c, d, f⟩
  · exact Or.inl ⟨a, b⟩
  · refine Or.inr ⟨z, a, b, c, d, fun y y1 y2 y3 => ?_⟩
    have := f y y1 y2 y3
    by_cases e : y = z
    · rw [e]; exact Int.le_refl _
    · have := rMom_mono h (a := z) (b := y) (by omega)
      show rMom mo wk wd mi z - sh * 60000 ≤ rMom mo wk wd mi y - sh * 60000
      omega
theorem rMom_bd {mo wk wd mi y : Int} (h : rOk mo wk wd mi) (h1 : 1960 ≤ y) (h2 : y ≤ 2310) : -400000000000 ≤ rMom mo wk wd mi y ∧ rMom mo wk wd mi y ≤ 20000000000000 := by
  have a := rMom_lo h y
  have b := rMom_hi h y
  have c := cYear_b (y := y) (by omega) (by omega)
  have d := cYear_b (y := y + 1) (by omega) (by omega)
  unfold cYear at *
  omega
end
section
/-! The reading of a zone's text: mathematics alone. f: the bytes as they lie in the array, n: how many count. A state: the place, and whether the text is broken there. -/
def tv (x : Int32) : Int := (x &&& 255).toInt
theorem tv_i (x : Int32) : x &&& 255 = iI (tv x) := (iI_of _).symm
theorem tv_b (x : Int32) : 0 ≤ tv x ∧ tv x ≤ 255 := by
  obtain ⟨j, hj, e⟩ := pk_andE x (m := 255) 8 (by decide)
  unfold tv
  rw [e, nI_toInt (by omega)]
  omega
def zPk (n : Nat) (f : Nat → Int32) (i : Nat) : Int := if i < n then tv (f i) else -1
theorem zPk_b (n : Nat) (f : Nat → Int32) (i : Nat) : -1 ≤ zPk n f i ∧ zPk n f i ≤ 255 := by
  have := tv_b (f i)
  unfold zPk
  split <;> omega
def zDig (x : Int) : Prop := 48 ≤ x ∧ x ≤ 57
def zByte (n : Nat) (f : Nat → Int32) (c : Int) (z : Nat × Bool) : Nat × Bool := if z.2 then z else if zPk n f z.1 = c then (z.1 + 1, false) else (z.1, true)
/-- over the blanks: u bytes are left -/
def zSkip (f : Nat → Int32) : Nat → Nat → Nat
  | 0, i => i
  | u + 1, i => if tv (f i) = 32 then zSkip f u (i + 1) else i
def zBl (n : Nat) (f : Nat → Int32) (z : Nat × Bool) : Nat × Bool := if z.2 then z else if zPk n f z.1 = 32 then (zSkip f (n - (z.1 + 1)) (z.1 + 1), false) else (z.1, true)
/-- over the digits -/
def zRun (f : Nat → Int32) : Nat → Nat → Int → Int × Nat
  | 0, i, v => (v, i)
  | u + 1, i, v => if 48 ≤ tv (f i) ∧ tv (f i) ≤ 57 then zRun f u (i + 1) (min (v * 10 + tv (f i) - 48) 100000) else (v, i)
/-- the number at a place: -1 where there is no digit -/
def zDg (n : Nat) (f : Nat → Int32) (i : Nat) : Int × Nat :=
  if 48 ≤ zPk n f i ∧ zPk n f i ≤ 57 then (if zPk n f i = 48 then (0, i + 1) else zRun f (n - (i + 1)) (i + 1) (zPk n f i - 48)) else (-1, i)
def zNum (n : Nat) (f : Nat → Int32) (lo hi : Int) (z : Nat × Bool) : Int × (Nat × Bool) :=
  if z.2 then (0, z) else if (zDg n f z.1).1 < lo ∨ hi < (zDg n f z.1).1 then ((zDg n f z.1).1, (z.1, true)) else ((zDg n f z.1).1, ((zDg n f z.1).2, false))
/-- what is read of a rule, and the state behind it -/
def zRu (n : Nat) (f : Nat → Int32) (z : Nat × Bool) : (Int × Int × Int × Int) × (Nat × Bool) :=
  let a1 := zByte n f 77 z
  let b1 := zNum n f 1 12 a1
  let a2 := zByte n f 46 b1.2
  let b2 := zNum n f 1 5 a2
  let a3 := zByte n f 46 b2.2
  let b3 := zNum n f 0 6 a3
  let a4 := zByte n f 47 b3.2
  let b4 := zNum n f 0 1439 a4
  ((b1.1, b2.1, b3.1, b4.1), b4.2)
theorem zByte_brk (n : Nat) (f : Nat → Int32) (c : Int) {z : Nat × Bool} (h : z.2 = true) : zByte n f c z = z := by simp [zByte, h]
theorem zBl_brk (n : Nat) (f : Nat → Int32) {z : Nat × Bool} (h : z.2 = true) : zBl n f z = z := by simp [zBl, h]
theorem zNum_brk (n : Nat) (f : Nat → Int32) (lo hi : Int) {z : Nat × Bool} (h : z.2 = true) : zNum n f lo hi z = (0, z) := by simp [zNum, h]
theorem zRu_brk (n : Nat) (f : Nat → Int32) {z : Nat × Bool} (h : z.2 = true) : zRu n f z = ((0, 0, 0, 0), z) := by
  simp [zRu, zByte_brk n f _ h, zNum_brk n f _ _ h]
theorem zSkip_b (f : Nat → Int32) : ∀ u i, i ≤ zSkip f u i ∧ zSkip f u i ≤ i + u
  | 0, i => by simp [zSkip]
  | u + 1, i => by
    have := zSkip_b f u (i + 1)
    unfold zSkip
    split <;> omega
theorem zRun_b (f : Nat → Int32) : ∀ u i v, 0 ≤ v → v ≤ 100000 → i ≤ (zRun f u i v).2 ∧ (zRun f u i v).2 ≤ i + u ∧ 0 ≤ (zRun f u i v).1 ∧ (zRun f u i v).1 ≤ 100000
  | 0, i, v, h1, h2 => by simp [zRun]; omega
  | u + 1, i, v, h1, h2 => by
    have b := tv_b (f i)
    unfold zRun
    split
    · have := zRun_b f u (i + 1) (min (v * 10 + tv (f i) - 48) 100000) (by omega) (by omega)
      omega
    · simp; omega
theorem zDg_b {n : Nat} {f : Nat → Int32} {i : Nat} (h : i ≤ n) : i ≤ (zDg n f i).2 ∧ (zDg n f i).2 ≤ n ∧ -1 ≤ (zDg n f i).1 ∧ (zDg n f i).1 ≤ 100000 := by
  unfold zDg
  split
  · rename_i q
    have hi : i < n := by
      unfold zPk at q
      split at q <;> omega
    split
    · simp; omega
    · have := zRun_b f (n - (i + 1)) (i + 1) (zPk n f i - 48) (by omega) (by omega)
      omega
  · simp; omega
theorem zByte_b {n : Nat} {f : Nat → Int32} {c : Int} {z : Nat × Bool} (hc : 0 ≤ c) (h : z.1 ≤ n) : z.1 ≤ (zByte n f c z).1 ∧ (zByte n f c z).1 ≤ n := by
  unfold zByte
  split
  · exact ⟨Nat.le_refl _, h⟩
  · split
    · rename_i q
      have hi : z.1 < n := by
        unfold zPk at q
        split at q <;> omega
      exact ⟨Nat.le_succ _, hi⟩
    · exact ⟨Nat.le_refl _, h⟩
theorem zBl_b {n : Nat} {f : Nat → Int32} {z : Nat × Bool} (h : z.1 ≤ n) : z.1 ≤ (zBl n f z).1 ∧ (zBl n f z).1 ≤ n := by
  unfold zBl
  split
  · exact ⟨Nat.le_refl _, h⟩
  · split
    · rename_i q
      have hi : z.1 < n := by
        unfold zPk at q
        split at q <;> omega
      have := zSkip_b f (n - (z.1 + 1)) (z.1 + 1)
      show z.1 ≤ zSkip f (n - (z.1 + 1)) (z.1 + 1) ∧ zSkip f (n - (z.1 + 1)) (z.1 + 1) ≤ n
      omega
    · exact ⟨Nat.le_refl _, h⟩
theorem zNum_b {n : Nat} {f : Nat → Int32} {lo hi : Int} {z : Nat × Bool} (h : z.1 ≤ n) : z.1 ≤ (zNum n f lo hi z).2.1 ∧ (zNum n f lo hi z).2.1 ≤ n ∧ -1 ≤ (zNum n f lo hi z).1 ∧ (zNum n f lo hi z).1 ≤ 100000 := by
  have := zDg_b (f := f) h
  unfold zNum
  split
  · simp; omega
  · split
    · exact ⟨Nat.le_refl _, h, this.2.2⟩
    · exact ⟨this.1, this.2.1, this.2.2⟩
theorem zNum_ok {n : Nat} {f : Nat → Int32} {lo hi : Int} {z : Nat × Bool} (h : (zNum n f lo hi z).2.2 = false) : z.2 = false ∧ lo ≤ (zNum n f lo hi z).1 ∧ (zNum n f lo hi z).1 ≤ hi := by
  unfold zNum at *
  split at h
  · rename_i q; simp [q] at h
  · rename_i q
    split at h
    · simp at h
    · rename_i q2
      simp only [q, q2]
      refine ⟨by simpa using q, ?_⟩
      simp
      omega
theorem zByte_ok {n : Nat} {f : Nat → Int32} {c : Int} {z : Nat × Bool} (h : (zByte n f c z).2 = false) : z.2 = false := by
  cases hz : z.2 with
  | false => rfl
  | true => rw [zByte_brk n f c hz, hz] at h; cases h
theorem zBl_ok {n : Nat} {f : Nat → Int32} {z : Nat × Bool} (h : (zBl n f z).2 = false) : z.2 = false := by
  cases hz : z.2 with
  | false => rfl
  | true => rw [zBl_brk n f hz, hz] at h; cases h
theorem zRu_ok {n : Nat} {f : Nat → Int32} {z : Nat × Bool} (h : (zRu n f z).2.2 = false) : z.2 = false ∧ rOk (zRu n f z).1.1 (zRu n f z).1.2.1 (zRu n f z).1.2.2.1 (zRu n f z).1.2.2.2 := by
  unfold zRu at *
  simp only at *
  obtain ⟨h1, h2, h3⟩ := zNum_ok h
  obtain ⟨h4, h5, h6⟩ := zNum_ok (zByte_ok h1)
  obtain ⟨h7, h8, h9⟩ := zNum_ok (zByte_ok h4)
  obtain ⟨g1, g2, g3⟩ := zNum_ok (zByte_ok h7)
  exact ⟨zByte_ok g1, g2, g3, h8, h9, h5, h6, h2, h3⟩
/-- a whole text: the state behind the offset; its value; the state behind all; the save; the rules -/
def zS2 (n : Nat) (f : Nat → Int32) : Int × (Nat × Bool) := zNum n f 0 840 (zByte n f (if zPk n f 0 = 45 then 45 else 43) (0, false))
def zOff (n : Nat) (f : Nat → Int32) : Int := if zPk n f 0 = 45 then -(zS2 n f).1 else (zS2 n f).1
def zS4 (n : Nat) (f : Nat → Int32) : Int × (Nat × Bool) := zNum n f 1 120 (zBl n f (zS2 n f).2)
def zR1 (n : Nat) (f : Nat → Int32) : (Int × Int × Int × Int) × (Nat × Bool) := zRu n f (zBl n f (zS4 n f).2)
def zR2 (n : Nat) (f : Nat → Int32) : (Int × Int × Int × Int) × (Nat × Bool) := zRu n f (zBl n f (zR1 n f).2)
def zMore (n : Nat) (f : Nat → Int32) : Bool := decide ((zS2 n f).2.1 < n)
def zSave (n : Nat) (f : Nat → Int32) : Int := if zMore n f then (zS4 n f).1 else 0
def zEnd (n : Nat) (f : Nat → Int32) : Nat × Bool := if zMore n f then (zR2 n f).2 else (zS2 n f).2
/-- is the text broken, and where -/
def zBad (n : Nat) (f : Nat → Int32) : Bool := decide ((zEnd n f).1 < n) || (zEnd n f).2
def zPlace (n : Nat) (f : Nat → Int32) : Int := if zBad n f then ((zEnd n f).1 : Int) else -1
end
section
/-! A zone with summer: what the class computes by its rules, and what the reference finds in its list of events, are the same: mathematics alone. -/
abbrev RU : Type := Int × Int × Int × Int
def uLast (r : RU) (t sh : Int) : Int := rLast r.1 r.2.1 r.2.2.1 r.2.2.2 t sh
def uNext (r : RU) (t sh : Int) : Int := rNext r.1 r.2.1 r.2.2.1 r.2.2.2 t sh
def uMom (r : RU) (y : Int) : Int := rMom r.1 r.2.1 r.2.2.1 r.2.2.2 y
def uOk (r : RU) : Prop := rOk r.1 r.2.1 r.2.2.1 r.2.2.2
def cSum (off sv : Int) (b e : RU) (t : Int) : Bool := decide (0 < sv) && decide (uLast e t (off + sv) < uLast b t off)
def cMin (off sv : Int) (b e : RU) (t : Int) : Int := if cSum off sv b e t then off + sv else off
def zRel (off sv : Int) (b e : RU) (cnt : Nat) (E : Nat → Int) (G : Nat → Bool) : Prop :=
  -840 ≤ off ∧ off ≤ 840 ∧ ((sv = 0 ∧ cnt = 0) ∨ (1 ≤ sv ∧ sv ≤ 120 ∧ uOk b ∧ uOk e ∧ cnt = 660 ∧ evS 660 E G ∧ evM 660 E G (evP 1970 2299 (fun y => uMom b y - off * 60000) (fun y => uMom e y - (off + sv) * 60000))))
def eSum (cnt : Nat) (E : Nat → Int) (G : Nat → Bool) (t : Int) : Bool := decide (0 < evK E t cnt) && G (evK E t cnt - 1)
theorem uMom_bd {r : RU} (h : uOk r) {y : Int} (h1 : 1970 ≤ y) (h2 : y ≤ 2299) : -400000000000 ≤ uMom r y ∧ uMom r y ≤ 20000000000000 := rMom_bd h (by omega) (by omega)
section ZR
variable {off sv t : Int} {b e : RU} {cnt : Nat} {E : Nat → Int} {G : Nat → Bool}
theorem rel_last (h1 : -840 ≤ off) (h2 : off ≤ 840) (h3 : 1 ≤ sv) (h4 : sv ≤ 120) (hb : uOk b) (he : uOk e) (hs : evS 660 E G) (hm : evM 660 E G (evP 1970 2299 (fun y => uMom b y - off * 60000) (fun y => uMom e y - (off + sv) * 60000))) (ht1 : -60000000 ≤ t) (ht2 : t ≤ 10413900000000) :
    (evK E t 660 = 0 ∧ uLast b t off = -1000000000000000 ∧ uLast e t (off + sv) = -1000000000000000) ∨ (0 < evK E t 660 ∧ evK E t 660 - 1 < 660 ∧ max (uLast b t off) (uLast e t (off + sv)) = E (evK E t 660 - 1) ∧ (G (evK E t 660 - 1) = true ↔ uLast e t (off + sv) < uLast b t off)) :=
  ev_last (X := 1000000000000000) hs hm (fun y y1 y2 => by have := uMom_bd hb y1 y2; show -1000000000000000 < uMom b y - off * 60000; omega) (fun y y1 y2 => by have := uMom_bd he y1 y2; show -1000000000000000 < uMom e y - (off + sv) * 60000; omega)
    (rLast_evL hb (by omega) (by omega)) (rLast_evL he (by omega) (by omega))
theorem rel_next (h1 : -840 ≤ off) (h2 : off ≤ 840) (h3 : 1 ≤ sv) (h4 : sv ≤ 120) (hb : uOk b) (he : uOk e) (hs : evS 660 E G) (hm : evM 660 E G (evP 1970 2299 (fun y => uMom b y - off * 60000) (fun y => uMom e y - (off + sv) * 60000))) (ht1 : -60000000 ≤ t) (ht2 : t ≤ 10413900000000) :
    (evK E t 660 = 660 ∧ min (uNext b t off) (uNext e t (off + sv)) = 1000000000000000) ∨ (evK E t 660 < 660 ∧ min (uNext b t off) (uNext e t (off + sv)) = E (evK E t 660) ∧ min (uNext b t off) (uNext e t (off + sv)) < 1000000000000000 ∧ t < min (uNext b t off) (uNext e t (off + sv))) :=
  ev_next (X := 1000000000000000) hs hm (fun y y1 y2 => by have := uMom_bd hb y1 y2; show uMom b y - off * 60000 < 1000000000000000; omega) (fun y y1 y2 => by have := uMom_bd he y1 y2; show uMom e y - (off + sv) * 60000 < 1000000000000000; omega)
    (rNext_evN hb (by omega) (by omega)) (rNext_evN he (by omega) (by omega))
theorem rel_sum (h : zRel off sv b e cnt E G) (ht1 : -60000000 ≤ t) (ht2 : t ≤ 10413900000000) : cSum off sv b e t = eSum cnt E G t := by
  obtain ⟨h1, h2, ⟨rfl, rfl⟩ | ⟨h3, h4, hb, he, rfl, hs, hm⟩⟩ := h
  · simp [cSum, eSum, evK]
  · unfold cSum eSum
    rw [decide_eq_true (show 0 < sv by omega), Bool.true_and]
    rcases rel_last h1 h2 h3 h4 hb he hs hm ht1 ht2 with ⟨k, l1, l2⟩ | ⟨k, -, -, g⟩
    · rw [k, l1, l2]; simp
    · rw [decide_eq_true k, Bool.true_and]
      cases hg : G (evK E t 660 - 1) with
      | true => exact decide_eq_true (g.mp hg)
      | false => exact decide_eq_false (fun q => by rw [g.mpr q] at hg; cases hg)
/-- the last change not behind t, as both tell it -/
def cBack (off sv : Int) (b e : RU) (t : Int) : Int := if sv = 0 then -1000000000000000 else max (uLast b t off) (uLast e t (off + sv))
def cFwd (off sv : Int) (b e : RU) (t : Int) : Int := if sv = 0 then 1000000000000000 else min (uNext b t off) (uNext e t (off + sv))
def cTell (f : Int) : Int := if f < 0 ∨ f = 1000000000000000 then -1 else f
theorem rel_back (h : zRel off sv b e cnt E G) (ht1 : 0 ≤ t) (ht2 : t ≤ 10413900000000) : cTell (cBack off sv b e t) = if evK E t cnt = 0 ∨ E (evK E t cnt - 1) < 0 then -1 else E (evK E t cnt - 1) := by
  obtain ⟨h1, h2, ⟨rfl, rfl⟩ | ⟨h3, h4, hb, he, rfl, hs, hm⟩⟩ := h
  · simp [cTell, cBack, evK]
  · unfold cTell cBack
    rw [if_neg (show ¬ sv = 0 by omega)]
    have hlo := evK_lo (t := t) hs
    rcases rel_last h1 h2 h3 h4 hb he hs hm (by omega) ht2 with ⟨k, l1, l2⟩ | ⟨k, k2, l, -⟩
    · rw [k, l1, l2]; simp
    · rw [l]
      have := hlo (evK E t 660 - 1) (by omega)
      by_cases q : E (evK E t 660 - 1) < 0
      · rw [if_pos (Or.inl q), if_pos (Or.inr q)]
      · rw [if_neg (by omega), if_neg (by omega)]
theorem rel_fwd (h : zRel off sv b e cnt E G) (ht1 : 0 ≤ t) (ht2 : t ≤ 10413900000000) : cTell (cFwd off sv b e t) = if evK E t cnt = cnt then -1 else E (evK E t cnt) := by
  obtain ⟨h1, h2, ⟨rfl, rfl⟩ | ⟨h3, h4, hb, he, rfl, hs, hm⟩⟩ := h
  · simp [cTell, cFwd, evK]
  · unfold cTell cFwd
    rw [if_neg (show ¬ sv = 0 by omega)]
    rcases rel_next h1 h2 h3 h4 hb he hs hm (by omega) ht2 with ⟨k, l⟩ | ⟨k, l1, l2, l3⟩
    · rw [k, l]; simp
    · rw [if_neg (by omega), if_neg (by omega), l1]
end ZR
end
