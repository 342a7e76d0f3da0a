section
-- ===== PART A: goes FIRST, ahead of the names: the tables' words, and 'selects' of the private methods out of them =====
/-- a private method of a class that the tables say can be made, by its rows of tables_1 -/
def lw_okq (q : MethodName × Nat) : Prop := (q.1.cls ≠ "java/lang/invoke/MethodHandle" ∧ q.1.cls ≠ "java/lang/invoke/VarHandle") ∧ Cond.instantiable q.1.cls q.2 ∈ tables_1 ∧ Cond.privateMethod q.1 ∈ tables_1 ∧ Cond.instanceMethod q.1 ∈ tables_1
theorem lw_p0 : lw_okq (⟨"java/lang/Throwable", "fillInStackTrace", "(I)Ljava/lang/Throwable;"⟩, 6) := ⟨⟨by decide +kernel, by decide +kernel⟩, List.mem_of_getElem? (i := 156) (by decide +kernel), List.mem_of_getElem? (i := 154) (by decide +kernel), List.mem_of_getElem? (i := 155) (by decide +kernel)⟩
theorem lw_p1 : lw_okq (⟨"ZoneClock", "zoneAt", "(I)LZoneClock$Zone;"⟩, 4) := ⟨⟨by decide +kernel, by decide +kernel⟩, List.mem_of_getElem? (i := 16) (by decide +kernel), List.mem_of_getElem? (i := 216) (by decide +kernel), List.mem_of_getElem? (i := 217) (by decide +kernel)⟩
theorem lw_p2 : lw_okq (⟨"ZoneClock$Tape", "readOffset", "()I"⟩, 4) := ⟨⟨by decide +kernel, by decide +kernel⟩, List.mem_of_getElem? (i := 24) (by decide +kernel), List.mem_of_getElem? (i := 224) (by decide +kernel), List.mem_of_getElem? (i := 225) (by decide +kernel)⟩
theorem lw_p3 : lw_okq (⟨"ZoneClock$Tape", "nextByte", "()I"⟩, 4) := ⟨⟨by decide +kernel, by decide +kernel⟩, List.mem_of_getElem? (i := 24) (by decide +kernel), List.mem_of_getElem? (i := 228) (by decide +kernel), List.mem_of_getElem? (i := 229) (by decide +kernel)⟩
theorem lw_p4 : lw_okq (⟨"ZoneClock$Tape", "readByte", "(C)V"⟩, 4) := ⟨⟨by decide +kernel, by decide +kernel⟩, List.mem_of_getElem? (i := 24) (by decide +kernel), List.mem_of_getElem? (i := 232) (by decide +kernel), List.mem_of_getElem? (i := 233) (by decide +kernel)⟩
theorem lw_p5 : lw_okq (⟨"ZoneClock$Tape", "readNumber", "(II)I"⟩, 4) := ⟨⟨by decide +kernel, by decide +kernel⟩, List.mem_of_getElem? (i := 24) (by decide +kernel), List.mem_of_getElem? (i := 236) (by decide +kernel), List.mem_of_getElem? (i := 237) (by decide +kernel)⟩
theorem lw_p6 : lw_okq (⟨"ZoneClock$Tape", "readDigits", "()I"⟩, 4) := ⟨⟨by decide +kernel, by decide +kernel⟩, List.mem_of_getElem? (i := 24) (by decide +kernel), List.mem_of_getElem? (i := 240) (by decide +kernel), List.mem_of_getElem? (i := 241) (by decide +kernel)⟩
theorem lw_p7 : lw_okq (⟨"ZoneClock$Tape", "readBlanks", "()V"⟩, 4) := ⟨⟨by decide +kernel, by decide +kernel⟩, List.mem_of_getElem? (i := 24) (by decide +kernel), List.mem_of_getElem? (i := 251) (by decide +kernel), List.mem_of_getElem? (i := 252) (by decide +kernel)⟩
theorem lw_p8 : lw_okq (⟨"ZoneClock$Tape", "readRule", "(LZoneClock$Rule;)V"⟩, 4) := ⟨⟨by decide +kernel, by decide +kernel⟩, List.mem_of_getElem? (i := 24) (by decide +kernel), List.mem_of_getElem? (i := 255) (by decide +kernel), List.mem_of_getElem? (i := 256) (by decide +kernel)⟩
theorem lw_p9 : lw_okq (⟨"ZoneClock$Rule", "momentIn", "(I)J"⟩, 4) := ⟨⟨by decide +kernel, by decide +kernel⟩, List.mem_of_getElem? (i := 51) (by decide +kernel), List.mem_of_getElem? (i := 326) (by decide +kernel), List.mem_of_getElem? (i := 327) (by decide +kernel)⟩
theorem lw_p10 : lw_okq (⟨"ZoneClockModel", "readZone", "(I)V"⟩, 15) := ⟨⟨by decide +kernel, by decide +kernel⟩, List.mem_of_getElem? (i := 447) (by decide +kernel), List.mem_of_getElem? (i := 515) (by decide +kernel), List.mem_of_getElem? (i := 516) (by decide +kernel)⟩
theorem lw_p11 : lw_okq (⟨"ZoneClockModel", "peek", "()I"⟩, 15) := ⟨⟨by decide +kernel, by decide +kernel⟩, List.mem_of_getElem? (i := 447) (by decide +kernel), List.mem_of_getElem? (i := 519) (by decide +kernel), List.mem_of_getElem? (i := 520) (by decide +kernel)⟩
theorem lw_p12 : lw_okq (⟨"ZoneClockModel", "bad", "(I)V"⟩, 15) := ⟨⟨by decide +kernel, by decide +kernel⟩, List.mem_of_getElem? (i := 447) (by decide +kernel), List.mem_of_getElem? (i := 523) (by decide +kernel), List.mem_of_getElem? (i := 524) (by decide +kernel)⟩
theorem lw_p13 : lw_okq (⟨"ZoneClockModel", "ranged", "(II)I"⟩, 15) := ⟨⟨by decide +kernel, by decide +kernel⟩, List.mem_of_getElem? (i := 447) (by decide +kernel), List.mem_of_getElem? (i := 528) (by decide +kernel), List.mem_of_getElem? (i := 529) (by decide +kernel)⟩
theorem lw_p14 : lw_okq (⟨"ZoneClockModel", "blanks", "()V"⟩, 15) := ⟨⟨by decide +kernel, by decide +kernel⟩, List.mem_of_getElem? (i := 447) (by decide +kernel), List.mem_of_getElem? (i := 537) (by decide +kernel), List.mem_of_getElem? (i := 538) (by decide +kernel)⟩
theorem lw_p15 : lw_okq (⟨"ZoneClockModel", "rule", "(I)V"⟩, 15) := ⟨⟨by decide +kernel, by decide +kernel⟩, List.mem_of_getElem? (i := 447) (by decide +kernel), List.mem_of_getElem? (i := 541) (by decide +kernel), List.mem_of_getElem? (i := 542) (by decide +kernel)⟩
def lw_privs_1 : List (MethodName × Nat) := [(⟨"java/lang/Throwable", "fillInStackTrace", "(I)Ljava/lang/Throwable;"⟩, 6), (⟨"ZoneClock", "zoneAt", "(I)LZoneClock$Zone;"⟩, 4), (⟨"ZoneClock$Tape", "readOffset", "()I"⟩, 4), (⟨"ZoneClock$Tape", "nextByte", "()I"⟩, 4), (⟨"ZoneClock$Tape", "readByte", "(C)V"⟩, 4), (⟨"ZoneClock$Tape", "readNumber", "(II)I"⟩, 4), (⟨"ZoneClock$Tape", "readDigits", "()I"⟩, 4), (⟨"ZoneClock$Tape", "readBlanks", "()V"⟩, 4), (⟨"ZoneClock$Tape", "readRule", "(LZoneClock$Rule;)V"⟩, 4), (⟨"ZoneClock$Rule", "momentIn", "(I)J"⟩, 4), (⟨"ZoneClockModel", "readZone", "(I)V"⟩, 15), (⟨"ZoneClockModel", "peek", "()I"⟩, 15), (⟨"ZoneClockModel", "bad", "(I)V"⟩, 15), (⟨"ZoneClockModel", "ranged", "(II)I"⟩, 15), (⟨"ZoneClockModel", "blanks", "()V"⟩, 15), (⟨"ZoneClockModel", "rule", "(I)V"⟩, 15)]
theorem lw_r1 : ∀ q ∈ lw_privs_1, lw_okq q := List.forall_mem_cons.mpr ⟨lw_p0, List.forall_mem_cons.mpr ⟨lw_p1, List.forall_mem_cons.mpr ⟨lw_p2, List.forall_mem_cons.mpr ⟨lw_p3, List.forall_mem_cons.mpr ⟨lw_p4, List.forall_mem_cons.mpr ⟨lw_p5, List.forall_mem_cons.mpr ⟨lw_p6, List.forall_mem_cons.mpr ⟨lw_p7, List.forall_mem_cons.mpr ⟨lw_p8, List.forall_mem_cons.mpr ⟨lw_p9, List.forall_mem_cons.mpr ⟨lw_p10, List.forall_mem_cons.mpr ⟨lw_p11, List.forall_mem_cons.mpr ⟨lw_p12, List.forall_mem_cons.mpr ⟨lw_p13, List.forall_mem_cons.mpr ⟨lw_p14, List.forall_mem_cons.mpr ⟨lw_p15, fun _ h => absurd h List.not_mem_nil⟩⟩⟩⟩⟩⟩⟩⟩⟩⟩⟩⟩⟩⟩⟩⟩
theorem lw_p16 : lw_okq (⟨"ZoneClockModel", "expect", "(I)V"⟩, 15) := ⟨⟨by decide +kernel, by decide +kernel⟩, List.mem_of_getElem? (i := 447) (by decide +kernel), List.mem_of_getElem? (i := 545) (by decide +kernel), List.mem_of_getElem? (i := 546) (by decide +kernel)⟩
theorem lw_p17 : lw_okq (⟨"ZoneClockModel", "ruleDay", "(II)I"⟩, 15) := ⟨⟨by decide +kernel, by decide +kernel⟩, List.mem_of_getElem? (i := 447) (by decide +kernel), List.mem_of_getElem? (i := 549) (by decide +kernel), List.mem_of_getElem? (i := 550) (by decide +kernel)⟩
theorem lw_p18 : lw_okq (⟨"ZoneClockModel", "event", "(IJZ)V"⟩, 15) := ⟨⟨by decide +kernel, by decide +kernel⟩, List.mem_of_getElem? (i := 447) (by decide +kernel), List.mem_of_getElem? (i := 568) (by decide +kernel), List.mem_of_getElem? (i := 569) (by decide +kernel)⟩
theorem lw_p19 : lw_okq (⟨"ZoneClockModel", "out", "(IJ)Z"⟩, 15) := ⟨⟨by decide +kernel, by decide +kernel⟩, List.mem_of_getElem? (i := 447) (by decide +kernel), List.mem_of_getElem? (i := 576) (by decide +kernel), List.mem_of_getElem? (i := 577) (by decide +kernel)⟩
theorem lw_p20 : lw_okq (⟨"ZoneClockModel", "fail", "(I)I"⟩, 15) := ⟨⟨by decide +kernel, by decide +kernel⟩, List.mem_of_getElem? (i := 447) (by decide +kernel), List.mem_of_getElem? (i := 581) (by decide +kernel), List.mem_of_getElem? (i := 582) (by decide +kernel)⟩
theorem lw_p21 : lw_okq (⟨"ZoneClockModel", "localAt", "(IJ)J"⟩, 15) := ⟨⟨by decide +kernel, by decide +kernel⟩, List.mem_of_getElem? (i := 447) (by decide +kernel), List.mem_of_getElem? (i := 585) (by decide +kernel), List.mem_of_getElem? (i := 586) (by decide +kernel)⟩
theorem lw_p22 : lw_okq (⟨"ZoneClockModel", "passed", "(IJ)I"⟩, 15) := ⟨⟨by decide +kernel, by decide +kernel⟩, List.mem_of_getElem? (i := 447) (by decide +kernel), List.mem_of_getElem? (i := 589) (by decide +kernel), List.mem_of_getElem? (i := 590) (by decide +kernel)⟩
theorem lw_p23 : lw_okq (⟨"ZoneClockModel", "minutes", "(II)I"⟩, 15) := ⟨⟨by decide +kernel, by decide +kernel⟩, List.mem_of_getElem? (i := 447) (by decide +kernel), List.mem_of_getElem? (i := 593) (by decide +kernel), List.mem_of_getElem? (i := 594) (by decide +kernel)⟩
theorem lw_p24 : lw_okq (⟨"ZoneClockModel", "find", "(IJ)I"⟩, 15) := ⟨⟨by decide +kernel, by decide +kernel⟩, List.mem_of_getElem? (i := 447) (by decide +kernel), List.mem_of_getElem? (i := 601) (by decide +kernel), List.mem_of_getElem? (i := 602) (by decide +kernel)⟩
theorem lw_p25 : lw_okq (⟨"ZoneClockModel", "date", "(I)V"⟩, 15) := ⟨⟨by decide +kernel, by decide +kernel⟩, List.mem_of_getElem? (i := 447) (by decide +kernel), List.mem_of_getElem? (i := 623) (by decide +kernel), List.mem_of_getElem? (i := 624) (by decide +kernel)⟩
theorem lw_p26 : lw_okq (⟨"ZoneClockModel", "summer", "(II)Z"⟩, 15) := ⟨⟨by decide +kernel, by decide +kernel⟩, List.mem_of_getElem? (i := 447) (by decide +kernel), List.mem_of_getElem? (i := 628) (by decide +kernel), List.mem_of_getElem? (i := 629) (by decide +kernel)⟩
def lw_privs_2 : List (MethodName × Nat) := [(⟨"ZoneClockModel", "expect", "(I)V"⟩, 15), (⟨"ZoneClockModel", "ruleDay", "(II)I"⟩, 15), (⟨"ZoneClockModel", "event", "(IJZ)V"⟩, 15), (⟨"ZoneClockModel", "out", "(IJ)Z"⟩, 15), (⟨"ZoneClockModel", "fail", "(I)I"⟩, 15), (⟨"ZoneClockModel", "localAt", "(IJ)J"⟩, 15), (⟨"ZoneClockModel", "passed", "(IJ)I"⟩, 15), (⟨"ZoneClockModel", "minutes", "(II)I"⟩, 15), (⟨"ZoneClockModel", "find", "(IJ)I"⟩, 15), (⟨"ZoneClockModel", "date", "(I)V"⟩, 15), (⟨"ZoneClockModel", "summer", "(II)Z"⟩, 15)]
theorem lw_r2 : ∀ q ∈ lw_privs_2, lw_okq q := List.forall_mem_cons.mpr ⟨lw_p16, List.forall_mem_cons.mpr ⟨lw_p17, List.forall_mem_cons.mpr ⟨lw_p18, List.forall_mem_cons.mpr ⟨lw_p19, List.forall_mem_cons.mpr ⟨lw_p20, List.forall_mem_cons.mpr ⟨lw_p21, List.forall_mem_cons.mpr ⟨lw_p22, List.forall_mem_cons.mpr ⟨lw_p23, List.forall_mem_cons.mpr ⟨lw_p24, List.forall_mem_cons.mpr ⟨lw_p25, List.forall_mem_cons.mpr ⟨lw_p26, fun _ h => absurd h List.not_mem_nil⟩⟩⟩⟩⟩⟩⟩⟩⟩⟩⟩
def lw_privs : List (MethodName × Nat) := lw_privs_1 ++ (lw_privs_2)
def lw_tbl : List Cond := k2_sels lw_privs ++ tables_1
theorem lw_privs_ok : ∀ q ∈ lw_privs, lw_okq q := by
  show ∀ q ∈ lw_privs_1 ++ (lw_privs_2), lw_okq q
  exact List.forall_mem_append.mpr ⟨lw_r1, lw_r2⟩
end
section
/-! The claim's words at a state, as they stay from state to state. -/
def tk_good (w : Cond) : Bool := (w.onTables && (w.keeps || w.faceAtom || w.castAtom)) || (match w with
  | .arrayClass _ => true
  | .fieldLinkNest _ _ _ _ _ _ => true
  | .methodLinkNest _ _ _ _ => true
  | _ => false)
theorem tk_word {s U : State} (hW : s.WarmedH U.vm) : ∀ (w : Cond), tk_good w = true → (∀ a : Array Value, w.before a s = true) → ∀ a : Array Value, w.before a U = true := by
  intro w hg h a
  unfold tk_good at hg
  rw [Bool.or_eq_true] at hg
  rcases hg with hg | hg
  · rw [Bool.and_eq_true, Bool.or_eq_true, Bool.or_eq_true] at hg
    obtain ⟨ht, (hg | hg) | hg⟩ := hg
    · exact word_at hW (Or.inl (by rw [ht, hg]; rfl)) (h #[])
    · have h1 := Cond.faceAtom_setVm (args := #[]) hW.alike w hg (h #[])
      rw [Cond.onTables_vm (A' := a) (U' := U) U.vm w ht, State.setVm_self] at h1
      exact h1
    · have h1 := Cond.castAtom_setVm (args := #[]) hW.alike w hg (h #[])
      rw [Cond.onTables_vm (A' := a) (U' := U) U.vm w ht, State.setVm_self] at h1
      exact h1
  · cases w with
    | arrayClass ty => exact word_at hW (Or.inr ⟨_, rfl⟩) (h #[])
    | fieldLinkNest o i r n d t => exact va_Nw.use rfl (va_Nw.warmF hW (va_Nw.of rfl (h #[])))
    | methodLinkNest o i y t => exact va_Nw.use rfl (va_Nw.warmM hW (va_Nw.of rfl (h #[])))
    | _ => exact (Bool.false_ne_true hg).elim
def tbg : List Cond := lw_tbl.filter tk_good
def tk (U : State) : Prop := ∀ w ∈ tbg, ∀ a : Array Value, w.before a U = true
theorem tk_warm {s U : State} (hW : s.WarmedH U.vm) (h : tk s) : tk U := fun w hw a => tk_word hW w (List.mem_filter.mp hw).2 (h w hw) a
theorem tb_mem {w : Cond} {N : Nat} (h : tables_1[N]? = some w) (hg : tk_good w = true) : w ∈ tbg := List.mem_filter.mpr ⟨List.mem_append_right _ (List.mem_of_getElem? h), hg⟩
theorem tb_sel {w : Cond} {N : Nat} (h : (k2_sels lw_privs)[N]? = some w) (hg : tk_good w = true) : w ∈ tbg := List.mem_filter.mpr ⟨List.mem_append_left _ (List.mem_of_getElem? h), hg⟩
theorem tk_of {s : State} (h : ∀ w ∈ lw_tbl, ∀ a : Array Value, w.before a s = true) : tk s := fun w hw a => h w (List.mem_filter.mp hw).1 a
end
section
/-! Names: classes, their fields by their slots, methods and their codes. By program (wip/whole/names.py) out of the claim's own text. -/
def R_Clk : String := "ZoneClock"
def R_Cal : String := "ZoneClock$Calendar"
def R_Rule : String := "ZoneClock$Rule"
def R_Tape : String := "ZoneClock$Tape"
def R_Zone : String := "ZoneClock$Zone"
def R_Ref : String := "ZoneClockModel"
def R_Law : String := "ZoneClockLaw"
def R_Math : String := "java/lang/Math"
def T_Rule : u_T := fun k => match k with
  | 0 => ("ZoneClock$Rule", "month", "I", false)
  | 1 => ("ZoneClock$Rule", "week", "I", false)
  | 2 => ("ZoneClock$Rule", "weekday", "I", false)
  | _ => ("ZoneClock$Rule", "minute", "I", false)
def ty_Rule : Nat → FieldType := fun k => match k with
  | 0 => .int
  | 1 => .int
  | 2 => .int
  | _ => .int
theorem nm_Rule : ∀ a, a < 4 → ∀ b, b < 4 → a ≠ b → (T_Rule a).2.1 ≠ (T_Rule b).2.1 := by decide +kernel
theorem ok_Rule : ∀ k, k < 4 → parseFieldDescriptor (T_Rule k).2.2.1 = some (ty_Rule k) := by decide +kernel
theorem in_Rule : ∀ w ∈ u_ws R_Rule T_Rule 4, w ∈ tbg := by decide +kernel
def T_Tape : u_T := fun k => match k with
  | 0 => ("ZoneClock$Tape", "bytes", "[B", true)
  | 1 => ("ZoneClock$Tape", "length", "I", false)
  | 2 => ("ZoneClock$Tape", "position", "I", false)
  | _ => ("ZoneClock$Tape", "broken", "Z", false)
def ty_Tape : Nat → FieldType := fun k => match k with
  | 0 => .array .byte
  | 1 => .int
  | 2 => .int
  | _ => .boolean
theorem nm_Tape : ∀ a, a < 4 → ∀ b, b < 4 → a ≠ b → (T_Tape a).2.1 ≠ (T_Tape b).2.1 := by decide +kernel
theorem ok_Tape : ∀ k, k < 4 → parseFieldDescriptor (T_Tape k).2.2.1 = some (ty_Tape k) := by decide +kernel
theorem in_Tape : ∀ w ∈ u_ws R_Tape T_Tape 4, w ∈ tbg := by decide +kernel
def T_Zone : u_T := fun k => match k with
  | 0 => ("ZoneClock$Zone", "offset", "I", false)
  | 1 => ("ZoneClock$Zone", "save", "I", false)
  | 2 => ("ZoneClock$Zone", "begin", "LZoneClock$Rule;", true)
  | _ => ("ZoneClock$Zone", "end", "LZoneClock$Rule;", true)
def ty_Zone : Nat → FieldType := fun k => match k with
  | 0 => .int
  | 1 => .int
  | 2 => .object "ZoneClock$Rule"
  | _ => .object "ZoneClock$Rule"
theorem nm_Zone : ∀ a, a < 4 → ∀ b, b < 4 → a ≠ b → (T_Zone a).2.1 ≠ (T_Zone b).2.1 := by decide +kernel
theorem ok_Zone : ∀ k, k < 4 → parseFieldDescriptor (T_Zone k).2.2.1 = some (ty_Zone k) := by decide +kernel
theorem in_Zone : ∀ w ∈ u_ws R_Zone T_Zone 4, w ∈ tbg := by decide +kernel
def T_Clk : u_T := fun k => match k with
  | 0 => ("ZoneClock", "tape", "LZoneClock$Tape;", true)
  | 1 => ("ZoneClock", "draft", "LZoneClock$Zone;", true)
  | 2 => ("ZoneClock", "zones", "[LZoneClock$Zone;", true)
  | _ => ("ZoneClock", "brokenPlace", "I", false)
def ty_Clk : Nat → FieldType := fun k => match k with
  | 0 => .object "ZoneClock$Tape"
  | 1 => .object "ZoneClock$Zone"
  | 2 => .array (.object "ZoneClock$Zone")
  | _ => .int
theorem nm_Clk : ∀ a, a < 4 → ∀ b, b < 4 → a ≠ b → (T_Clk a).2.1 ≠ (T_Clk b).2.1 := by decide +kernel
theorem ok_Clk : ∀ k, k < 4 → parseFieldDescriptor (T_Clk k).2.2.1 = some (ty_Clk k) := by decide +kernel
theorem in_Clk : ∀ w ∈ u_ws R_Clk T_Clk 4, w ∈ tbg := by decide +kernel
def T_Ref : u_T := fun k => match k with
  | 0 => ("ZoneClockModel", "failed", "I", false)
  | 1 => ("ZoneClockModel", "tape", "[B", true)
  | 2 => ("ZoneClockModel", "taped", "I", false)
  | 3 => ("ZoneClockModel", "place", "I", false)
  | 4 => ("ZoneClockModel", "year", "I", false)
  | 5 => ("ZoneClockModel", "month", "I", false)
  | 6 => ("ZoneClockModel", "day", "I", false)
  | 7 => ("ZoneClockModel", "at", "I", false)
  | 8 => ("ZoneClockModel", "offsets", "[I", true)
  | 9 => ("ZoneClockModel", "saves", "[I", true)
  | 10 => ("ZoneClockModel", "events", "[[J", true)
  | 11 => ("ZoneClockModel", "begins", "[[Z", true)
  | 12 => ("ZoneClockModel", "eventCounts", "[I", true)
  | 13 => ("ZoneClockModel", "rule", "[I", true)
  | _ => ("ZoneClockModel", "found", "[J", true)
def ty_Ref : Nat → FieldType := fun k => match k with
  | 0 => .int
  | 1 => .array .byte
  | 2 => .int
  | 3 => .int
  | 4 => .int
  | 5 => .int
  | 6 => .int
  | 7 => .int
  | 8 => .array .int
  | 9 => .array .int
  | 10 => .array (.array .long)
  | 11 => .array (.array .boolean)
  | 12 => .array .int
  | 13 => .array .int
  | _ => .array .long
theorem nm_Ref : ∀ a, a < 15 → ∀ b, b < 15 → a ≠ b → (T_Ref a).2.1 ≠ (T_Ref b).2.1 := by decide +kernel
theorem ok_Ref : ∀ k, k < 15 → parseFieldDescriptor (T_Ref k).2.2.1 = some (ty_Ref k) := by decide +kernel
theorem in_Ref : ∀ w ∈ u_ws R_Ref T_Ref 15, w ∈ tbg := by decide +kernel
/-- the classes whose objects the worlds hold: 0 Rule, 1 Tape, 2 Zone, 3 ZoneClock, 4 ZoneClockModel -/
abbrev vwCl : List vw_C := [(R_Rule, T_Rule, 4), (R_Tape, T_Tape, 4), (R_Zone, T_Zone, 4), (R_Clk, T_Clk, 4), (R_Ref, T_Ref, 15)]
abbrev c_Clk_init : ByteArray := prog_1_method_1_code
def y_Clk_init : MethodName := ⟨R_Clk, "<init>", "()V"⟩
abbrev c_Tape_init : ByteArray := prog_4_method_1_code
def y_Tape_init : MethodName := ⟨R_Tape, "<init>", "()V"⟩
abbrev c_Zone_init : ByteArray := prog_5_method_1_code
def y_Zone_init : MethodName := ⟨R_Zone, "<init>", "()V"⟩
abbrev c_Rule_init : ByteArray := prog_3_method_1_code
def y_Rule_init : MethodName := ⟨R_Rule, "<init>", "()V"⟩
abbrev c_Clk_place : ByteArray := prog_1_method_10_code
def y_Clk_place : MethodName := ⟨R_Clk, "place", "()I"⟩
abbrev c_Law_feed : ByteArray := method_3_code
def y_Law_feed : MethodName := ⟨R_Law, "feed", "(LZoneClock;IIIII[J)I"⟩
abbrev c_Clk_feed : ByteArray := prog_1_method_2_code
def y_Clk_feed : MethodName := ⟨R_Clk, "feed", "(IIIII)I"⟩
abbrev c_Tape_append : ByteArray := prog_4_method_2_code
def y_Tape_append : MethodName := ⟨R_Tape, "append", "(I)V"⟩
abbrev c_Law_end : ByteArray := method_4_code
def y_Law_end : MethodName := ⟨R_Law, "end", "(LZoneClock;I[J)I"⟩
abbrev c_Clk_end : ByteArray := prog_1_method_3_code
def y_Clk_end : MethodName := ⟨R_Clk, "end", "(I)I"⟩
abbrev c_Law_zone : ByteArray := method_5_code
def y_Law_zone : MethodName := ⟨R_Law, "zone", "(LZoneClock;I)I"⟩
abbrev c_Clk_zone : ByteArray := prog_1_method_4_code
def y_Clk_zone : MethodName := ⟨R_Clk, "zone", "(I)V"⟩
abbrev c_Clk_zoneAt : ByteArray := prog_1_method_11_code
def y_Clk_zoneAt : MethodName := ⟨R_Clk, "zoneAt", "(I)LZoneClock$Zone;"⟩
abbrev c_Tape_readZone : ByteArray := prog_4_method_3_code
def y_Tape_readZone : MethodName := ⟨R_Tape, "readZone", "(LZoneClock$Zone;)I"⟩
abbrev c_Tape_readOffset : ByteArray := prog_4_method_4_code
def y_Tape_readOffset : MethodName := ⟨R_Tape, "readOffset", "()I"⟩
abbrev c_Tape_nextByte : ByteArray := prog_4_method_10_code
def y_Tape_nextByte : MethodName := ⟨R_Tape, "nextByte", "()I"⟩
abbrev c_Tape_readByte : ByteArray := prog_4_method_6_code
def y_Tape_readByte : MethodName := ⟨R_Tape, "readByte", "(C)V"⟩
abbrev c_Tape_readNumber : ByteArray := prog_4_method_8_code
def y_Tape_readNumber : MethodName := ⟨R_Tape, "readNumber", "(II)I"⟩
abbrev c_Tape_readDigits : ByteArray := prog_4_method_9_code
def y_Tape_readDigits : MethodName := ⟨R_Tape, "readDigits", "()I"⟩
abbrev c_Tape_isDigit : ByteArray := prog_4_method_11_code
def y_Tape_isDigit : MethodName := ⟨R_Tape, "isDigit", "(I)Z"⟩
abbrev c_Math_minI : ByteArray := prog_11_method_69_code
def y_Math_minI : MethodName := ⟨R_Math, "min", "(II)I"⟩
abbrev c_Tape_readBlanks : ByteArray := prog_4_method_7_code
def y_Tape_readBlanks : MethodName := ⟨R_Tape, "readBlanks", "()V"⟩
abbrev c_Tape_readRule : ByteArray := prog_4_method_5_code
def y_Tape_readRule : MethodName := ⟨R_Tape, "readRule", "(LZoneClock$Rule;)V"⟩
abbrev c_Zone_become : ByteArray := prog_5_method_2_code
def y_Zone_become : MethodName := ⟨R_Zone, "become", "(LZoneClock$Zone;)V"⟩
abbrev c_Rule_become : ByteArray := prog_3_method_2_code
def y_Rule_become : MethodName := ⟨R_Rule, "become", "(LZoneClock$Rule;)V"⟩
abbrev c_Law_local : ByteArray := method_6_code
def y_Law_local : MethodName := ⟨R_Law, "local", "(LZoneClock;IJ[J)I"⟩
abbrev c_Clk_local : ByteArray := prog_1_method_5_code
def y_Clk_local : MethodName := ⟨R_Clk, "local", "(IJ)J"⟩
abbrev c_Clk_checkTime : ByteArray := prog_1_method_12_code
def y_Clk_checkTime : MethodName := ⟨R_Clk, "checkTime", "(J)V"⟩
abbrev c_Zone_minutesAt : ByteArray := prog_5_method_4_code
def y_Zone_minutesAt : MethodName := ⟨R_Zone, "minutesAt", "(J)I"⟩
abbrev c_Zone_isSummer : ByteArray := prog_5_method_3_code
def y_Zone_isSummer : MethodName := ⟨R_Zone, "isSummer", "(J)Z"⟩
abbrev c_Rule_lastUpTo : ByteArray := prog_3_method_3_code
def y_Rule_lastUpTo : MethodName := ⟨R_Rule, "lastUpTo", "(JI)J"⟩
abbrev c_Cal_dayAt : ByteArray := prog_2_method_3_code
def y_Cal_dayAt : MethodName := ⟨R_Cal, "dayAt", "(J)I"⟩
abbrev c_Math_floorDivJ : ByteArray := prog_11_method_49_code
def y_Math_floorDivJ : MethodName := ⟨R_Math, "floorDiv", "(JJ)J"⟩
abbrev c_Cal_yearOf : ByteArray := prog_2_method_5_code
def y_Cal_yearOf : MethodName := ⟨R_Cal, "yearOf", "(I)I"⟩
abbrev c_Math_floorDivI : ByteArray := prog_11_method_47_code
def y_Math_floorDivI : MethodName := ⟨R_Math, "floorDiv", "(II)I"⟩
abbrev c_Cal_firstDayOf : ByteArray := prog_2_method_7_code
def y_Cal_firstDayOf : MethodName := ⟨R_Cal, "firstDayOf", "(II)I"⟩
abbrev c_Cal_lengthOf : ByteArray := prog_2_method_8_code
def y_Cal_lengthOf : MethodName := ⟨R_Cal, "lengthOf", "(II)I"⟩
abbrev c_Rule_momentIn : ByteArray := prog_3_method_5_code
def y_Rule_momentIn : MethodName := ⟨R_Rule, "momentIn", "(I)J"⟩
abbrev c_Cal_weekdayOf : ByteArray := prog_2_method_4_code
def y_Cal_weekdayOf : MethodName := ⟨R_Cal, "weekdayOf", "(I)I"⟩
abbrev c_Math_floorModI : ByteArray := prog_11_method_50_code
def y_Math_floorModI : MethodName := ⟨R_Math, "floorMod", "(II)I"⟩
abbrev c_Law_many : ByteArray := method_7_code
def y_Law_many : MethodName := ⟨R_Law, "many", "(LZoneClock;IJ[J)I"⟩
abbrev c_Clk_many : ByteArray := prog_1_method_6_code
def y_Clk_many : MethodName := ⟨R_Clk, "many", "(IJ)I"⟩
abbrev c_Zone_isReadInSummer : ByteArray := prog_5_method_8_code
def y_Zone_isReadInSummer : MethodName := ⟨R_Zone, "isReadInSummer", "(J)Z"⟩
abbrev c_Zone_fromSummerReading : ByteArray := prog_5_method_6_code
def y_Zone_fromSummerReading : MethodName := ⟨R_Zone, "fromSummerReading", "(J)J"⟩
abbrev c_Zone_isReadOutsideSummer : ByteArray := prog_5_method_7_code
def y_Zone_isReadOutsideSummer : MethodName := ⟨R_Zone, "isReadOutsideSummer", "(J)Z"⟩
abbrev c_Zone_fromPlainReading : ByteArray := prog_5_method_5_code
def y_Zone_fromPlainReading : MethodName := ⟨R_Zone, "fromPlainReading", "(J)J"⟩
abbrev c_Law_universal : ByteArray := method_8_code
def y_Law_universal : MethodName := ⟨R_Law, "universal", "(LZoneClock;IJZ[J)I"⟩
abbrev c_Clk_universal : ByteArray := prog_1_method_7_code
def y_Clk_universal : MethodName := ⟨R_Clk, "universal", "(IJZ)J"⟩
abbrev c_Law_change : ByteArray := method_9_code
def y_Law_change : MethodName := ⟨R_Law, "change", "(LZoneClock;IJZ[J)I"⟩
abbrev c_Clk_change : ByteArray := prog_1_method_8_code
def y_Clk_change : MethodName := ⟨R_Clk, "change", "(IJZ)J"⟩
abbrev c_Zone_lastChangeUpTo : ByteArray := prog_5_method_9_code
def y_Zone_lastChangeUpTo : MethodName := ⟨R_Zone, "lastChangeUpTo", "(J)J"⟩
abbrev c_Math_maxJ : ByteArray := prog_11_method_66_code
def y_Math_maxJ : MethodName := ⟨R_Math, "max", "(JJ)J"⟩
abbrev c_Zone_firstChangeBehind : ByteArray := prog_5_method_10_code
def y_Zone_firstChangeBehind : MethodName := ⟨R_Zone, "firstChangeBehind", "(J)J"⟩
abbrev c_Rule_firstBehind : ByteArray := prog_3_method_4_code
def y_Rule_firstBehind : MethodName := ⟨R_Rule, "firstBehind", "(JI)J"⟩
abbrev c_Math_maxI : ByteArray := prog_11_method_65_code
def y_Math_maxI : MethodName := ⟨R_Math, "max", "(II)I"⟩
abbrev c_Math_minJ : ByteArray := prog_11_method_70_code
def y_Math_minJ : MethodName := ⟨R_Math, "min", "(JJ)J"⟩
abbrev c_Law_field : ByteArray := method_10_code
def y_Law_field : MethodName := ⟨R_Law, "field", "(LZoneClock;IJI[J)I"⟩
abbrev c_Clk_field : ByteArray := prog_1_method_9_code
def y_Clk_field : MethodName := ⟨R_Clk, "field", "(IJI)I"⟩
abbrev c_Cal_partOf : ByteArray := prog_2_method_2_code
def y_Cal_partOf : MethodName := ⟨R_Cal, "partOf", "(JI)I"⟩
abbrev c_Math_floorModJ : ByteArray := prog_11_method_52_code
def y_Math_floorModJ : MethodName := ⟨R_Math, "floorMod", "(JJ)J"⟩
abbrev c_Cal_monthOf : ByteArray := prog_2_method_6_code
def y_Cal_monthOf : MethodName := ⟨R_Cal, "monthOf", "(II)I"⟩
abbrev c_Ref_init : ByteArray := prog_7_method_1_code
def y_Ref_init : MethodName := ⟨R_Ref, "<init>", "()V"⟩
abbrev c_Ref_thrown : ByteArray := prog_7_method_2_code
def y_Ref_thrown : MethodName := ⟨R_Ref, "thrown", "()I"⟩
abbrev c_Ref_zone : ByteArray := prog_7_method_18_code
def y_Ref_zone : MethodName := ⟨R_Ref, "zone", "(I)V"⟩
abbrev c_Ref_readZone : ByteArray := prog_7_method_19_code
def y_Ref_readZone : MethodName := ⟨R_Ref, "readZone", "(I)V"⟩
abbrev c_Ref_peek : ByteArray := prog_7_method_10_code
def y_Ref_peek : MethodName := ⟨R_Ref, "peek", "()I"⟩
abbrev c_Ref_bad : ByteArray := prog_7_method_9_code
def y_Ref_bad : MethodName := ⟨R_Ref, "bad", "(I)V"⟩
abbrev c_Ref_ranged : ByteArray := prog_7_method_14_code
def y_Ref_ranged : MethodName := ⟨R_Ref, "ranged", "(II)I"⟩
abbrev c_Ref_digit : ByteArray := prog_7_method_11_code
def y_Ref_digit : MethodName := ⟨R_Ref, "digit", "(I)Z"⟩
abbrev c_Ref_blanks : ByteArray := prog_7_method_13_code
def y_Ref_blanks : MethodName := ⟨R_Ref, "blanks", "()V"⟩
abbrev c_Ref_rule : ByteArray := prog_7_method_15_code
def y_Ref_rule : MethodName := ⟨R_Ref, "rule", "(I)V"⟩
abbrev c_Ref_expect : ByteArray := prog_7_method_12_code
def y_Ref_expect : MethodName := ⟨R_Ref, "expect", "(I)V"⟩
abbrev c_Ref_ruleDay : ByteArray := prog_7_method_16_code
def y_Ref_ruleDay : MethodName := ⟨R_Ref, "ruleDay", "(II)I"⟩
abbrev c_Ref_number : ByteArray := prog_7_method_6_code
def y_Ref_number : MethodName := ⟨R_Ref, "number", "(II)I"⟩
abbrev c_Ref_length : ByteArray := prog_7_method_5_code
def y_Ref_length : MethodName := ⟨R_Ref, "length", "(II)I"⟩
abbrev c_Ref_leap : ByteArray := prog_7_method_4_code
def y_Ref_leap : MethodName := ⟨R_Ref, "leap", "(I)Z"⟩
abbrev c_Ref_weekday : ByteArray := prog_7_method_8_code
def y_Ref_weekday : MethodName := ⟨R_Ref, "weekday", "(I)I"⟩
abbrev c_Ref_event : ByteArray := prog_7_method_17_code
def y_Ref_event : MethodName := ⟨R_Ref, "event", "(IJZ)V"⟩
abbrev c_Ref_local : ByteArray := prog_7_method_25_code
def y_Ref_local : MethodName := ⟨R_Ref, "local", "(IJ)J"⟩
abbrev c_Ref_out : ByteArray := prog_7_method_24_code
def y_Ref_out : MethodName := ⟨R_Ref, "out", "(IJ)Z"⟩
abbrev c_Ref_fail : ByteArray := prog_7_method_3_code
def y_Ref_fail : MethodName := ⟨R_Ref, "fail", "(I)I"⟩
abbrev c_Ref_localAt : ByteArray := prog_7_method_23_code
def y_Ref_localAt : MethodName := ⟨R_Ref, "localAt", "(IJ)J"⟩
abbrev c_Ref_passed : ByteArray := prog_7_method_20_code
def y_Ref_passed : MethodName := ⟨R_Ref, "passed", "(IJ)I"⟩
abbrev c_Ref_minutes : ByteArray := prog_7_method_21_code
def y_Ref_minutes : MethodName := ⟨R_Ref, "minutes", "(II)I"⟩
abbrev c_Ref_many : ByteArray := prog_7_method_27_code
def y_Ref_many : MethodName := ⟨R_Ref, "many", "(IJ)I"⟩
abbrev c_Ref_find : ByteArray := prog_7_method_26_code
def y_Ref_find : MethodName := ⟨R_Ref, "find", "(IJ)I"⟩
abbrev c_Ref_universal : ByteArray := prog_7_method_28_code
def y_Ref_universal : MethodName := ⟨R_Ref, "universal", "(IJZ)J"⟩
abbrev c_Ref_change : ByteArray := prog_7_method_29_code
def y_Ref_change : MethodName := ⟨R_Ref, "change", "(IJZ)J"⟩
abbrev c_Ref_field : ByteArray := prog_7_method_30_code
def y_Ref_field : MethodName := ⟨R_Ref, "field", "(IJI)I"⟩
abbrev c_Ref_date : ByteArray := prog_7_method_7_code
def y_Ref_date : MethodName := ⟨R_Ref, "date", "(I)V"⟩
abbrev c_Ref_summer : ByteArray := prog_7_method_22_code
def y_Ref_summer : MethodName := ⟨R_Ref, "summer", "(II)Z"⟩
abbrev c_Ref_place : ByteArray := prog_7_method_31_code
def y_Ref_place : MethodName := ⟨R_Ref, "place", "()I"⟩
abbrev c_Ref_feed : ByteArray := prog_7_method_32_code
def y_Ref_feed : MethodName := ⟨R_Ref, "feed", "(IIIII)I"⟩
abbrev c_Ref_end : ByteArray := prog_7_method_33_code
def y_Ref_end : MethodName := ⟨R_Ref, "end", "(I)I"⟩
abbrev c_Law_law : ByteArray := code
def y_Law_law : MethodName := ⟨R_Law, "law", "([I)Z"⟩
end
section
/-! Ints and longs by their mathematical values. -/
def iI (x : Int) : Int32 := Int32.ofInt x
def lL (x : Int) : Int64 := Int64.ofInt x
theorem iI_mn : Int32.minValue.toInt = -2147483648 := by decide
theorem iI_mx : Int32.maxValue.toInt = 2147483647 := by decide
theorem lL_mn : Int64.minValue.toInt = -9223372036854775808 := by decide
theorem lL_mx : Int64.maxValue.toInt = 9223372036854775807 := by decide
theorem iI_to {x : Int} (h1 : -2147483648 ≤ x) (h2 : x ≤ 2147483647) : (iI x).toInt = x := Int32.toInt_ofInt_of_le (by omega) (by omega)
theorem lL_to {x : Int} (h1 : -9223372036854775808 ≤ x) (h2 : x ≤ 9223372036854775807) : (lL x).toInt = x := Int64.toInt_ofInt_of_le (by omega) (by omega)
theorem iI_of (x : Int32) : iI x.toInt = x := Int32.ofInt_toInt x
theorem lL_of (x : Int64) : lL x.toInt = x := Int64.ofInt_toInt x
theorem iI_ge (x : Int32) : -2147483648 ≤ x.toInt := by have := x.le_toInt; omega
theorem iI_le2 (x : Int32) : x.toInt ≤ 2147483647 := by have := x.toInt_lt; omega
theorem lL_ge (x : Int64) : -9223372036854775808 ≤ x.toInt := by have := x.le_toInt; omega
theorem lL_le2 (x : Int64) : x.toInt ≤ 9223372036854775807 := by have := x.toInt_lt; omega
theorem iI_add (a b : Int) : iI a + iI b = iI (a + b) := (Int32.ofInt_add a b).symm
theorem iI_sub (a b : Int) : iI a - iI b = iI (a - b) := (Int32.ofInt_sub a b).symm
theorem iI_mul (a b : Int) : iI a * iI b = iI (a * b) := (Int32.ofInt_mul a b).symm
theorem iI_neg (a : Int) : -iI a = iI (-a) := (Int32.ofInt_neg a).symm
theorem lL_add (a b : Int) : lL a + lL b = lL (a + b) := (Int64.ofInt_add a b).symm
theorem lL_sub (a b : Int) : lL a - lL b = lL (a - b) := (Int64.ofInt_sub a b).symm
theorem lL_mul (a b : Int) : lL a * lL b = lL (a * b) := (Int64.ofInt_mul a b).symm
theorem lL_neg (a : Int) : -lL a = lL (-a) := (Int64.ofInt_neg a).symm
theorem iI_tdiv {a b : Int} (h1 : -2147483648 ≤ a) (h2 : a ≤ 2147483647) (h3 : -2147483648 ≤ b) (h4 : b ≤ 2147483647) : iI a / iI b = iI (a.tdiv b) :=
  (Int32.ofInt_tdiv (by rw [iI_mn]; exact h1) (by rw [iI_mx]; exact h2) (by rw [iI_mn]; exact h3) (by rw [iI_mx]; exact h4)).symm
theorem lL_tdiv {a b : Int} (h1 : -9223372036854775808 ≤ a) (h2 : a ≤ 9223372036854775807) (h3 : -9223372036854775808 ≤ b) (h4 : b ≤ 9223372036854775807) : lL a / lL b = lL (a.tdiv b) :=
  (Int64.ofInt_tdiv (by rw [lL_mn]; exact h1) (by rw [lL_mx]; exact h2) (by rw [lL_mn]; exact h3) (by rw [lL_mx]; exact h4)).symm
theorem iI_lt {a b : Int} (h1 : -2147483648 ≤ a) (h2 : a ≤ 2147483647) (h3 : -2147483648 ≤ b) (h4 : b ≤ 2147483647) : iI a < iI b ↔ a < b := by
  rw [Int32.lt_iff_toInt_lt, iI_to h1 h2, iI_to h3 h4]
theorem iI_le {a b : Int} (h1 : -2147483648 ≤ a) (h2 : a ≤ 2147483647) (h3 : -2147483648 ≤ b) (h4 : b ≤ 2147483647) : iI a ≤ iI b ↔ a ≤ b := by
  rw [Int32.le_iff_toInt_le, iI_to h1 h2, iI_to h3 h4]
theorem iI_eq {a b : Int} (h1 : -2147483648 ≤ a) (h2 : a ≤ 2147483647) (h3 : -2147483648 ≤ b) (h4 : b ≤ 2147483647) : iI a = iI b ↔ a = b := by
  rw [← Int32.toInt_inj, iI_to h1 h2, iI_to h3 h4]
theorem lL_lt {a b : Int} (h1 : -9223372036854775808 ≤ a) (h2 : a ≤ 9223372036854775807) (h3 : -9223372036854775808 ≤ b) (h4 : b ≤ 9223372036854775807) : lL a < lL b ↔ a < b := by
  rw [Int64.lt_iff_toInt_lt, lL_to h1 h2, lL_to h3 h4]
theorem lL_le {a b : Int} (h1 : -9223372036854775808 ≤ a) (h2 : a ≤ 9223372036854775807) (h3 : -9223372036854775808 ≤ b) (h4 : b ≤ 9223372036854775807) : lL a ≤ lL b ↔ a ≤ b := by
  rw [Int64.le_iff_toInt_le, lL_to h1 h2, lL_to h3 h4]
theorem lL_eq {a b : Int} (h1 : -9223372036854775808 ≤ a) (h2 : a ≤ 9223372036854775807) (h3 : -9223372036854775808 ≤ b) (h4 : b ≤ 9223372036854775807) : lL a = lL b ↔ a = b := by
  rw [← Int64.toInt_inj, lL_to h1 h2, lL_to h3 h4]
theorem iI_0 : (0 : Int32) = iI 0 := by decide
theorem iI_1 : (1 : Int32) = iI 1 := by decide
theorem iI_m1 : (-1 : Int32) = iI (-1) := by decide
theorem lL_0 : (0 : Int64) = lL 0 := by decide
theorem iI_ne0 {b : Int} (h1 : -2147483648 ≤ b) (h2 : b ≤ 2147483647) (h : b ≠ 0) : ¬ iI b = 0 := by
  rw [iI_0, iI_eq h1 h2 (by decide) (by decide)]; exact h
theorem lL_ne0 {b : Int} (h1 : -9223372036854775808 ≤ b) (h2 : b ≤ 9223372036854775807) (h : b ≠ 0) : ¬ lL b = 0 := by
  rw [lL_0, lL_eq h1 h2 (by decide) (by decide)]; exact h
theorem iI_l {a : Int} (h1 : -2147483648 ≤ a) (h2 : a ≤ 2147483647) : (iI a).toInt64 = lL a :=
  Int64.toInt_inj.1 (by rw [Int32.toInt_toInt64, iI_to h1 h2, lL_to (by omega) (by omega)])
theorem lL_i (a : Int) : (lL a).toInt32 = iI a := Int64.toInt32_ofInt
theorem iI_cl {a : Int} (h1 : 0 ≤ a) (h2 : a ≤ 2147483647) : (iI a).toNatClampNeg = a.toNat := by
  show (iI a).toInt.toNat = a.toNat
  rw [iI_to (by omega) h2]
theorem iI_in {a : Int} {n : Nat} (h1 : 0 ≤ a) (h2 : a < n) (hn : (n : Int) ≤ 2147483647) : vp_in (iI a) n := by
  rw [vp_in_iff, iI_to (by omega) (by omega)]; exact ⟨h1, h2⟩
theorem iI_n (n : Nat) : Int32.ofNat n = iI n := by
  exact Int32.ofInt_eq_ofNat.symm
end
section
/-! Rows on ints and longs that are told by their mathematical values. -/
section RI
variable {p : Program} {l : Launch} {e : Env} {R : Room} {s : State} {m : MethodId} {args : Array Value} {below : List Frame} {meth : Method} {c : Code} {H : Heap} {locs : List Loc} {cells slots : Nat} {Q : State → Prop}
variable {cc : ByteArray} {pc : Nat} {ls : Array Slot} {rest : List Value}
theorem ri_i {x y : Int} (h : x = y) (k : W p l e R s m args below meth c H locs cells slots Q (F0 m pc ls (.int (iI (y)) :: rest))) : W p l e R s m args below meth c H locs cells slots Q (F0 m pc ls (.int (iI (x)) :: rest)) := h ▸ k
theorem ri_l {x y : Int} (h : x = y) (k : W p l e R s m args below meth c H locs cells slots Q (F0 m pc ls (.long (lL (y)) :: rest))) : W p l e R s m args below meth c H locs cells slots Q (F0 m pc ls (.long (lL (x)) :: rest)) := h ▸ k
theorem ri_v {x y : Value} (h : x = y) (k : W p l e R s m args below meth c H locs cells slots Q (F0 m pc ls (y :: rest))) : W p l e R s m args below meth c H locs cells slots Q (F0 m pc ls (x :: rest)) := h ▸ k
theorem ri_iadd (hexec : p.tables.exec = Jvm.exec) (hb : c.code = cc) {a b : Int} (hdg : decode cc pc = .ok (.iadd, 1))
    (k : W p l e R s m args below meth c H locs cells slots Q (F0 m (pc + 1) ls (.int (iI (a + b)) :: rest))) : W p l e R s m args below meth c H locs cells slots Q (F0 m pc ls (.int (iI (b)) :: .int (iI (a)) :: rest)) := lv_iadd hexec hb hdg (by rw [iI_add]; exact k)
theorem ri_isub (hexec : p.tables.exec = Jvm.exec) (hb : c.code = cc) {a b : Int} (hdg : decode cc pc = .ok (.isub, 1))
    (k : W p l e R s m args below meth c H locs cells slots Q (F0 m (pc + 1) ls (.int (iI (a - b)) :: rest))) : W p l e R s m args below meth c H locs cells slots Q (F0 m pc ls (.int (iI (b)) :: .int (iI (a)) :: rest)) := lv_isub hexec hb hdg (by rw [iI_sub]; exact k)
theorem ri_imul (hexec : p.tables.exec = Jvm.exec) (hb : c.code = cc) {a b : Int} (hdg : decode cc pc = .ok (.imul, 1))
    (k : W p l e R s m args below meth c H locs cells slots Q (F0 m (pc + 1) ls (.int (iI (a * b)) :: rest))) : W p l e R s m args below meth c H locs cells slots Q (F0 m pc ls (.int (iI (b)) :: .int (iI (a)) :: rest)) := lv_imul hexec hb hdg (by rw [iI_mul]; exact k)
theorem ri_ladd (hexec : p.tables.exec = Jvm.exec) (hb : c.code = cc) {a b : Int} (hdg : decode cc pc = .ok (.ladd, 1))
    (k : W p l e R s m args below meth c H locs cells slots Q (F0 m (pc + 1) ls (.long (lL (a + b)) :: rest))) : W p l e R s m args below meth c H locs cells slots Q (F0 m pc ls (.long (lL (b)) :: .long (lL (a)) :: rest)) := lv_ladd hexec hb hdg (by rw [lL_add]; exact k)
theorem ri_lsub (hexec : p.tables.exec = Jvm.exec) (hb : c.code = cc) {a b : Int} (hdg : decode cc pc = .ok (.lsub, 1))
    (k : W p l e R s m args below meth c H locs cells slots Q (F0 m (pc + 1) ls (.long (lL (a - b)) :: rest))) : W p l e R s m args below meth c H locs cells slots Q (F0 m pc ls (.long (lL (b)) :: .long (lL (a)) :: rest)) := lv_lsub hexec hb hdg (by rw [lL_sub]; exact k)
theorem ri_lmul (hexec : p.tables.exec = Jvm.exec) (hb : c.code = cc) {a b : Int} (hdg : decode cc pc = .ok (.lmul, 1))
    (k : W p l e R s m args below meth c H locs cells slots Q (F0 m (pc + 1) ls (.long (lL (a * b)) :: rest))) : W p l e R s m args below meth c H locs cells slots Q (F0 m pc ls (.long (lL (b)) :: .long (lL (a)) :: rest)) := lv_lmul hexec hb hdg (by rw [lL_mul]; exact k)
theorem ri_ineg (hexec : p.tables.exec = Jvm.exec) (hb : c.code = cc) {a : Int} (hdg : decode cc pc = .ok (.ineg, 1))
    (k : W p l e R s m args below meth c H locs cells slots Q (F0 m (pc + 1) ls (.int (iI (-a)) :: rest))) : W p l e R s m args below meth c H locs cells slots Q (F0 m pc ls (.int (iI (a)) :: rest)) := lv_ineg hexec hb hdg (by rw [iI_neg]; exact k)
theorem ri_idivT (hexec : p.tables.exec = Jvm.exec) (hb : c.code = cc) {a b : Int} (hdg : decode cc pc = .ok (.idiv, 1))
    (k : W p l e R s m args below meth c H locs cells slots Q (F0 m (pc + 1) ls (.int (iI (a.tdiv b)) :: rest))) (hne : b ≠ 0 := by omega) (h1 : -2147483648 ≤ a := by omega) (h2 : a ≤ 2147483647 := by omega) (h3 : -2147483648 ≤ b := by omega) (h4 : b ≤ 2147483647 := by omega) : W p l e R s m args below meth c H locs cells slots Q (F0 m pc ls (.int (iI (b)) :: .int (iI (a)) :: rest)) := lv_idiv hexec hb hdg (iI_ne0 h3 h4 hne) (by rw [iI_tdiv h1 h2 h3 h4]; exact k)
theorem ri_iremT (hexec : p.tables.exec = Jvm.exec) (hb : c.code = cc) {a b : Int} (hdg : decode cc pc = .ok (.irem, 1))
    (k : W p l e R s m args below meth c H locs cells slots Q (F0 m (pc + 1) ls (.int (iI (a.tmod b)) :: rest))) (hne : b ≠ 0 := by omega) (h1 : -2147483648 ≤ a := by omega) (h2 : a ≤ 2147483647 := by omega) (h3 : -2147483648 ≤ b := by omega) (h4 : b ≤ 2147483647 := by omega) : W p l e R s m args below meth c H locs cells slots Q (F0 m pc ls (.int (iI (b)) :: .int (iI (a)) :: rest)) := lv_irem hexec hb hdg (iI_ne0 h3 h4 hne) (by rw [iI_tdiv h1 h2 h3 h4, iI_mul, iI_sub, show a - a.tdiv b * b = a.tmod b from by rw [Int.tmod_def, Int.mul_comm]]; exact k)
theorem ri_ldivT (hexec : p.tables.exec = Jvm.exec) (hb : c.code = cc) {a b : Int} (hdg : decode cc pc = .ok (.ldiv, 1))
    (k : W p l e R s m args below meth c H locs cells slots Q (F0 m (pc + 1) ls (.long (lL (a.tdiv b)) :: rest))) (hne : b ≠ 0 := by omega) (h1 : -9223372036854775808 ≤ a := by omega) (h2 : a ≤ 9223372036854775807 := by omega) (h3 : -9223372036854775808 ≤ b := by omega) (h4 : b ≤ 9223372036854775807 := by omega) : W p l e R s m args below meth c H locs cells slots Q (F0 m pc ls (.long (lL (b)) :: .long (lL (a)) :: rest)) := lv_ldiv hexec hb hdg (lL_ne0 h3 h4 hne) (by rw [lL_tdiv h1 h2 h3 h4]; exact k)
theorem ri_lremT (hexec : p.tables.exec = Jvm.exec) (hb : c.code = cc) {a b : Int} (hdg : decode cc pc = .ok (.lrem, 1))
    (k : W p l e R s m args below meth c H locs cells slots Q (F0 m (pc + 1) ls (.long (lL (a.tmod b)) :: rest))) (hne : b ≠ 0 := by omega) (h1 : -9223372036854775808 ≤ a := by omega) (h2 : a ≤ 9223372036854775807 := by omega) (h3 : -9223372036854775808 ≤ b := by omega) (h4 : b ≤ 9223372036854775807 := by omega) : W p l e R s m args below meth c H locs cells slots Q (F0 m pc ls (.long (lL (b)) :: .long (lL (a)) :: rest)) := lv_lrem hexec hb hdg (lL_ne0 h3 h4 hne) (by rw [lL_tdiv h1 h2 h3 h4, lL_mul, lL_sub, show a - a.tdiv b * b = a.tmod b from by rw [Int.tmod_def, Int.mul_comm]]; exact k)
theorem ri_idiv (hexec : p.tables.exec = Jvm.exec) (hb : c.code = cc) {a b : Int} (hdg : decode cc pc = .ok (.idiv, 1))
    (k : W p l e R s m args below meth c H locs cells slots Q (F0 m (pc + 1) ls (.int (iI (a / b)) :: rest))) (h1 : 0 ≤ a := by omega) (h2 : a ≤ 2147483647 := by omega) (h3 : 0 < b := by omega) (h4 : b ≤ 2147483647 := by omega) : W p l e R s m args below meth c H locs cells slots Q (F0 m pc ls (.int (iI (b)) :: .int (iI (a)) :: rest)) := ri_idivT hexec hb hdg (by rw [Int.tdiv_eq_ediv_of_nonneg h1]; exact k) (by omega) (by omega) (by omega) (by omega) (by omega)
theorem ri_irem (hexec : p.tables.exec = Jvm.exec) (hb : c.code = cc) {a b : Int} (hdg : decode cc pc = .ok (.irem, 1))
    (k : W p l e R s m args below meth c H locs cells slots Q (F0 m (pc + 1) ls (.int (iI (a % b)) :: rest))) (h1 : 0 ≤ a := by omega) (h2 : a ≤ 2147483647 := by omega) (h3 : 0 < b := by omega) (h4 : b ≤ 2147483647 := by omega) : W p l e R s m args below meth c H locs cells slots Q (F0 m pc ls (.int (iI (b)) :: .int (iI (a)) :: rest)) := ri_iremT hexec hb hdg (by rw [Int.tmod_eq_emod_of_nonneg h1]; exact k) (by omega) (by omega) (by omega) (by omega) (by omega)
theorem ri_ldiv (hexec : p.tables.exec = Jvm.exec) (hb : c.code = cc) {a b : Int} (hdg : decode cc pc = .ok (.ldiv, 1))
    (k : W p l e R s m args below meth c H locs cells slots Q (F0 m (pc + 1) ls (.long (lL (a / b)) :: rest))) (h1 : 0 ≤ a := by omega) (h2 : a ≤ 9223372036854775807 := by omega) (h3 : 0 < b := by omega) (h4 : b ≤ 9223372036854775807 := by omega) : W p l e R s m args below meth c H locs cells slots Q (F0 m pc ls (.long (lL (b)) :: .long (lL (a)) :: rest)) := ri_ldivT hexec hb hdg (by rw [Int.tdiv_eq_ediv_of_nonneg h1]; exact k) (by omega) (by omega) (by omega) (by omega) (by omega)
theorem ri_lrem (hexec : p.tables.exec = Jvm.exec) (hb : c.code = cc) {a b : Int} (hdg : decode cc pc = .ok (.lrem, 1))
    (k : W p l e R s m args below meth c H locs cells slots Q (F0 m (pc + 1) ls (.long (lL (a % b)) :: rest))) (h1 : 0 ≤ a := by omega) (h2 : a ≤ 9223372036854775807 := by omega) (h3 : 0 < b := by omega) (h4 : b ≤ 9223372036854775807 := by omega) : W p l e R s m args below meth c H locs cells slots Q (F0 m pc ls (.long (lL (b)) :: .long (lL (a)) :: rest)) := ri_lremT hexec hb hdg (by rw [Int.tmod_eq_emod_of_nonneg h1]; exact k) (by omega) (by omega) (by omega) (by omega) (by omega)
theorem ri_i2l (hexec : p.tables.exec = Jvm.exec) (hb : c.code = cc) {a : Int} (hdg : decode cc pc = .ok (.i2l, 1))
    (k : W p l e R s m args below meth c H locs cells slots Q (F0 m (pc + 1) ls (.long (lL (a)) :: rest))) (h1 : -2147483648 ≤ a := by omega) (h2 : a ≤ 2147483647 := by omega) : W p l e R s m args below meth c H locs cells slots Q (F0 m pc ls (.int (iI (a)) :: rest)) := lv_i2l hexec hb hdg (iI_l h1 h2) k
theorem ri_l2i (hexec : p.tables.exec = Jvm.exec) (hb : c.code = cc) {a : Int} (hdg : decode cc pc = .ok (.l2i, 1))
    (k : W p l e R s m args below meth c H locs cells slots Q (F0 m (pc + 1) ls (.int (iI (a)) :: rest))) : W p l e R s m args below meth c H locs cells slots Q (F0 m pc ls (.long (lL (a)) :: rest)) := lv_l2i hexec hb hdg (lL_i a) k
theorem ri_icmp_eq (hexec : p.tables.exec = Jvm.exec) (hb : c.code = cc) {a b : Int} {off : Int} {tgt : Nat} (hdg : decode cc pc = .ok (.if_icmp .eq off, 3)) (ht : (pc : Int) + off = (tgt : Int))
    (kt : a = b → W p l e R s m args below meth c H locs cells slots Q (F0 m tgt ls (rest))) (kf : a ≠ b → W p l e R s m args below meth c H locs cells slots Q (F0 m (pc + 3) ls (rest))) (h1 : -2147483648 ≤ a := by omega) (h2 : a ≤ 2147483647 := by omega) (h3 : -2147483648 ≤ b := by omega) (h4 : b ≤ 2147483647 := by omega) : W p l e R s m args below meth c H locs cells slots Q (F0 m pc ls (.int (iI (b)) :: .int (iI (a)) :: rest)) := lv_icmp_eq hexec hb hdg ht (fun h => kt ((iI_eq h1 h2 h3 h4).mp h)) (fun h => kf (fun q => h (by rw [q])))
theorem ri_icmp_ne (hexec : p.tables.exec = Jvm.exec) (hb : c.code = cc) {a b : Int} {off : Int} {tgt : Nat} (hdg : decode cc pc = .ok (.if_icmp .ne off, 3)) (ht : (pc : Int) + off = (tgt : Int))
    (kt : a ≠ b → W p l e R s m args below meth c H locs cells slots Q (F0 m tgt ls (rest))) (kf : a = b → W p l e R s m args below meth c H locs cells slots Q (F0 m (pc + 3) ls (rest))) (h1 : -2147483648 ≤ a := by omega) (h2 : a ≤ 2147483647 := by omega) (h3 : -2147483648 ≤ b := by omega) (h4 : b ≤ 2147483647 := by omega) : W p l e R s m args below meth c H locs cells slots Q (F0 m pc ls (.int (iI (b)) :: .int (iI (a)) :: rest)) := lv_icmp_ne hexec hb hdg ht (fun h => kt (fun q => h (by rw [q]))) (fun h => kf ((iI_eq h1 h2 h3 h4).mp h))
theorem ri_icmp_lt (hexec : p.tables.exec = Jvm.exec) (hb : c.code = cc) {a b : Int} {off : Int} {tgt : Nat} (hdg : decode cc pc = .ok (.if_icmp .lt off, 3)) (ht : (pc : Int) + off = (tgt : Int))
    (kt : a < b → W p l e R s m args below meth c H locs cells slots Q (F0 m tgt ls (rest))) (kf : b ≤ a → W p l e R s m args below meth c H locs cells slots Q (F0 m (pc + 3) ls (rest))) (h1 : -2147483648 ≤ a := by omega) (h2 : a ≤ 2147483647 := by omega) (h3 : -2147483648 ≤ b := by omega) (h4 : b ≤ 2147483647 := by omega) : W p l e R s m args below meth c H locs cells slots Q (F0 m pc ls (.int (iI (b)) :: .int (iI (a)) :: rest)) := lv_icmp_lt hexec hb hdg ht (fun h => kt ((iI_lt h1 h2 h3 h4).mp h)) (fun h => kf (Int.not_lt.mp (fun q => h ((iI_lt h1 h2 h3 h4).mpr q))))
theorem ri_icmp_ge (hexec : p.tables.exec = Jvm.exec) (hb : c.code = cc) {a b : Int} {off : Int} {tgt : Nat} (hdg : decode cc pc = .ok (.if_icmp .ge off, 3)) (ht : (pc : Int) + off = (tgt : Int))
    (kt : b ≤ a → W p l e R s m args below meth c H locs cells slots Q (F0 m tgt ls (rest))) (kf : a < b → W p l e R s m args below meth c H locs cells slots Q (F0 m (pc + 3) ls (rest))) (h1 : -2147483648 ≤ a := by omega) (h2 : a ≤ 2147483647 := by omega) (h3 : -2147483648 ≤ b := by omega) (h4 : b ≤ 2147483647 := by omega) : W p l e R s m args below meth c H locs cells slots Q (F0 m pc ls (.int (iI (b)) :: .int (iI (a)) :: rest)) := lv_icmp_ge hexec hb hdg ht (fun h => kt ((iI_le h3 h4 h1 h2).mp h)) (fun h => kf (Int.not_le.mp (fun q => h ((iI_le h3 h4 h1 h2).mpr q))))
theorem ri_icmp_gt (hexec : p.tables.exec = Jvm.exec) (hb : c.code = cc) {a b : Int} {off : Int} {tgt : Nat} (hdg : decode cc pc = .ok (.if_icmp .gt off, 3)) (ht : (pc : Int) + off = (tgt : Int))
    (kt : b < a → W p l e R s m args below meth c H locs cells slots Q (F0 m tgt ls (rest))) (kf : a ≤ b → W p l e R s m args below meth c H locs cells slots Q (F0 m (pc + 3) ls (rest))) (h1 : -2147483648 ≤ a := by omega) (h2 : a ≤ 2147483647 := by omega) (h3 : -2147483648 ≤ b := by omega) (h4 : b ≤ 2147483647 := by omega) : W p l e R s m args below meth c H locs cells slots Q (F0 m pc ls (.int (iI (b)) :: .int (iI (a)) :: rest)) := lv_icmp_gt hexec hb hdg ht (fun h => kt ((iI_lt h3 h4 h1 h2).mp h)) (fun h => kf (Int.not_lt.mp (fun q => h ((iI_lt h3 h4 h1 h2).mpr q))))
theorem ri_icmp_le (hexec : p.tables.exec = Jvm.exec) (hb : c.code = cc) {a b : Int} {off : Int} {tgt : Nat} (hdg : decode cc pc = .ok (.if_icmp .le off, 3)) (ht : (pc : Int) + off = (tgt : Int))
    (kt : a ≤ b → W p l e R s m args below meth c H locs cells slots Q (F0 m tgt ls (rest))) (kf : b < a → W p l e R s m args below meth c H locs cells slots Q (F0 m (pc + 3) ls (rest))) (h1 : -2147483648 ≤ a := by omega) (h2 : a ≤ 2147483647 := by omega) (h3 : -2147483648 ≤ b := by omega) (h4 : b ≤ 2147483647 := by omega) : W p l e R s m args below meth c H locs cells slots Q (F0 m pc ls (.int (iI (b)) :: .int (iI (a)) :: rest)) := lv_icmp_le hexec hb hdg ht (fun h => kt ((iI_le h1 h2 h3 h4).mp h)) (fun h => kf (Int.not_le.mp (fun q => h ((iI_le h1 h2 h3 h4).mpr q))))
theorem ri_if_eq (hexec : p.tables.exec = Jvm.exec) (hb : c.code = cc) {a : Int} {off : Int} {tgt : Nat} (hdg : decode cc pc = .ok (.ifCond .eq off, 3)) (ht : (pc : Int) + off = (tgt : Int))
    (kt : a = 0 → W p l e R s m args below meth c H locs cells slots Q (F0 m tgt ls (rest))) (kf : a ≠ 0 → W p l e R s m args below meth c H locs cells slots Q (F0 m (pc + 3) ls (rest))) (h1 : -2147483648 ≤ a := by omega) (h2 : a ≤ 2147483647 := by omega) : W p l e R s m args below meth c H locs cells slots Q (F0 m pc ls (.int (iI (a)) :: rest)) := lv_if_eq hexec hb hdg ht (fun h => kt ((iI_eq h1 h2 (by decide) (by decide)).mp (h.trans iI_0))) (fun h => kf (fun q => h (by rw [q]; rfl)))
theorem ri_if_ne (hexec : p.tables.exec = Jvm.exec) (hb : c.code = cc) {a : Int} {off : Int} {tgt : Nat} (hdg : decode cc pc = .ok (.ifCond .ne off, 3)) (ht : (pc : Int) + off = (tgt : Int))
    (kt : a ≠ 0 → W p l e R s m args below meth c H locs cells slots Q (F0 m tgt ls (rest))) (kf : a = 0 → W p l e R s m args below meth c H locs cells slots Q (F0 m (pc + 3) ls (rest))) (h1 : -2147483648 ≤ a := by omega) (h2 : a ≤ 2147483647 := by omega) : W p l e R s m args below meth c H locs cells slots Q (F0 m pc ls (.int (iI (a)) :: rest)) := lv_if_ne hexec hb hdg ht (fun h => kt (fun q => h (by rw [q]; rfl))) (fun h => kf ((iI_eq h1 h2 (by decide) (by decide)).mp (h.trans iI_0)))
theorem ri_if_lt (hexec : p.tables.exec = Jvm.exec) (hb : c.code = cc) {a : Int} {off : Int} {tgt : Nat} (hdg : decode cc pc = .ok (.ifCond .lt off, 3)) (ht : (pc : Int) + off = (tgt : Int))
    (kt : a < 0 → W p l e R s m args below meth c H locs cells slots Q (F0 m tgt ls (rest))) (kf : 0 ≤ a → W p l e R s m args below meth c H locs cells slots Q (F0 m (pc + 3) ls (rest))) (h1 : -2147483648 ≤ a := by omega) (h2 : a ≤ 2147483647 := by omega) : W p l e R s m args below meth c H locs cells slots Q (F0 m pc ls (.int (iI (a)) :: rest)) := lv_if_lt hexec hb hdg ht (fun h => kt ((iI_lt h1 h2 (by decide) (by decide)).mp (iI_0 ▸ h))) (fun h => kf (Int.not_lt.mp (fun q => h (iI_0.symm ▸ (iI_lt h1 h2 (by decide) (by decide)).mpr q))))
theorem ri_if_ge (hexec : p.tables.exec = Jvm.exec) (hb : c.code = cc) {a : Int} {off : Int} {tgt : Nat} (hdg : decode cc pc = .ok (.ifCond .ge off, 3)) (ht : (pc : Int) + off = (tgt : Int))
    (kt : 0 ≤ a → W p l e R s m args below meth c H locs cells slots Q (F0 m tgt ls (rest))) (kf : a < 0 → W p l e R s m args below meth c H locs cells slots Q (F0 m (pc + 3) ls (rest))) (h1 : -2147483648 ≤ a := by omega) (h2 : a ≤ 2147483647 := by omega) : W p l e R s m args below meth c H locs cells slots Q (F0 m pc ls (.int (iI (a)) :: rest)) := lv_if_ge hexec hb hdg ht (fun h => kt ((iI_le (by decide) (by decide) h1 h2).mp (iI_0 ▸ h))) (fun h => kf (Int.not_le.mp (fun q => h (iI_0.symm ▸ (iI_le (by decide) (by decide) h1 h2).mpr q))))
theorem ri_if_gt (hexec : p.tables.exec = Jvm.exec) (hb : c.code = cc) {a : Int} {off : Int} {tgt : Nat} (hdg : decode cc pc = .ok (.ifCond .gt off, 3)) (ht : (pc : Int) + off = (tgt : Int))
    (kt : 0 < a → W p l e R s m args below meth c H locs cells slots Q (F0 m tgt ls (rest))) (kf : a ≤ 0 → W p l e R s m args below meth c H locs cells slots Q (F0 m (pc + 3) ls (rest))) (h1 : -2147483648 ≤ a := by omega) (h2 : a ≤ 2147483647 := by omega) : W p l e R s m args below meth c H locs cells slots Q (F0 m pc ls (.int (iI (a)) :: rest)) := lv_if_gt hexec hb hdg ht (fun h => kt ((iI_lt (by decide) (by decide) h1 h2).mp (iI_0 ▸ h))) (fun h => kf (Int.not_lt.mp (fun q => h (iI_0.symm ▸ (iI_lt (by decide) (by decide) h1 h2).mpr q))))
theorem ri_if_le (hexec : p.tables.exec = Jvm.exec) (hb : c.code = cc) {a : Int} {off : Int} {tgt : Nat} (hdg : decode cc pc = .ok (.ifCond .le off, 3)) (ht : (pc : Int) + off = (tgt : Int))
    (kt : a ≤ 0 → W p l e R s m args below meth c H locs cells slots Q (F0 m tgt ls (rest))) (kf : 0 < a → W p l e R s m args below meth c H locs cells slots Q (F0 m (pc + 3) ls (rest))) (h1 : -2147483648 ≤ a := by omega) (h2 : a ≤ 2147483647 := by omega) : W p l e R s m args below meth c H locs cells slots Q (F0 m pc ls (.int (iI (a)) :: rest)) := lv_if_le hexec hb hdg ht (fun h => kt ((iI_le h1 h2 (by decide) (by decide)).mp (iI_0 ▸ h))) (fun h => kf (Int.not_le.mp (fun q => h (iI_0.symm ▸ (iI_le h1 h2 (by decide) (by decide)).mpr q))))
theorem ri_lcmp_eq (hexec : p.tables.exec = Jvm.exec) (hb : c.code = cc) {a b : Int} {off : Int} {tgt : Nat} (hdg : decode cc pc = .ok (.lcmp, 1)) (hdg2 : decode cc (pc + 1) = .ok (.ifCond .eq off, 3)) (ht : ((pc + 1 : Nat) : Int) + off = (tgt : Int))
    (kt : a = b → W p l e R s m args below meth c H locs cells slots Q (F0 m tgt ls (rest))) (kf : a ≠ b → W p l e R s m args below meth c H locs cells slots Q (F0 m (pc + 4) ls (rest))) (h1 : -9223372036854775808 ≤ a := by omega) (h2 : a ≤ 9223372036854775807 := by omega) (h3 : -9223372036854775808 ≤ b := by omega) (h4 : b ≤ 9223372036854775807 := by omega) : W p l e R s m args below meth c H locs cells slots Q (F0 m pc ls (.long (lL (b)) :: .long (lL (a)) :: rest)) := W.lcmp hexec hb hdg (lv_if_eq hexec hb hdg2 ht (fun h => kt ((lL_eq h1 h2 h3 h4).mp ((lg_cmp_eq _ _).mp h))) (fun h => kf (fun q => h ((lg_cmp_eq _ _).mpr (by rw [q])))))
theorem ri_lcmp_ne (hexec : p.tables.exec = Jvm.exec) (hb : c.code = cc) {a b : Int} {off : Int} {tgt : Nat} (hdg : decode cc pc = .ok (.lcmp, 1)) (hdg2 : decode cc (pc + 1) = .ok (.ifCond .ne off, 3)) (ht : ((pc + 1 : Nat) : Int) + off = (tgt : Int))
    (kt : a ≠ b → W p l e R s m args below meth c H locs cells slots Q (F0 m tgt ls (rest))) (kf : a = b → W p l e R s m args below meth c H locs cells slots Q (F0 m (pc + 4) ls (rest))) (h1 : -9223372036854775808 ≤ a := by omega) (h2 : a ≤ 9223372036854775807 := by omega) (h3 : -9223372036854775808 ≤ b := by omega) (h4 : b ≤ 9223372036854775807 := by omega) : W p l e R s m args below meth c H locs cells slots Q (F0 m pc ls (.long (lL (b)) :: .long (lL (a)) :: rest)) := W.lcmp hexec hb hdg (lv_if_ne hexec hb hdg2 ht (fun h => kt (fun q => h ((lg_cmp_eq _ _).mpr (by rw [q])))) (fun h => kf ((lL_eq h1 h2 h3 h4).mp ((lg_cmp_eq _ _).mp h))))
theorem ri_lcmp_lt (hexec : p.tables.exec = Jvm.exec) (hb : c.code = cc) {a b : Int} {off : Int} {tgt : Nat} (hdg : decode cc pc = .ok (.lcmp, 1)) (hdg2 : decode cc (pc + 1) = .ok (.ifCond .lt off, 3)) (ht : ((pc + 1 : Nat) : Int) + off = (tgt : Int))
    (kt : a < b → W p l e R s m args below meth c H locs cells slots Q (F0 m tgt ls (rest))) (kf : b ≤ a → W p l e R s m args below meth c H locs cells slots Q (F0 m (pc + 4) ls (rest))) (h1 : -9223372036854775808 ≤ a := by omega) (h2 : a ≤ 9223372036854775807 := by omega) (h3 : -9223372036854775808 ≤ b := by omega) (h4 : b ≤ 9223372036854775807 := by omega) : W p l e R s m args below meth c H locs cells slots Q (F0 m pc ls (.long (lL (b)) :: .long (lL (a)) :: rest)) := W.lcmp hexec hb hdg (lv_if_lt hexec hb hdg2 ht (fun h => kt ((lL_lt h1 h2 h3 h4).mp ((lg_cmp_lt _ _).mp h))) (fun h => kf (Int.not_lt.mp (fun q => h ((lg_cmp_lt _ _).mpr ((lL_lt h1 h2 h3 h4).mpr q))))))
theorem ri_lcmp_ge (hexec : p.tables.exec = Jvm.exec) (hb : c.code = cc) {a b : Int} {off : Int} {tgt : Nat} (hdg : decode cc pc = .ok (.lcmp, 1)) (hdg2 : decode cc (pc + 1) = .ok (.ifCond .ge off, 3)) (ht : ((pc + 1 : Nat) : Int) + off = (tgt : Int))
    (kt : b ≤ a → W p l e R s m args below meth c H locs cells slots Q (F0 m tgt ls (rest))) (kf : a < b → W p l e R s m args below meth c H locs cells slots Q (F0 m (pc + 4) ls (rest))) (h1 : -9223372036854775808 ≤ a := by omega) (h2 : a ≤ 9223372036854775807 := by omega) (h3 : -9223372036854775808 ≤ b := by omega) (h4 : b ≤ 9223372036854775807 := by omega) : W p l e R s m args below meth c H locs cells slots Q (F0 m pc ls (.long (lL (b)) :: .long (lL (a)) :: rest)) := W.lcmp hexec hb hdg (lv_if_ge hexec hb hdg2 ht (fun h => kt ((lL_le h3 h4 h1 h2).mp ((lg_cmp_ge _ _).mp h))) (fun h => kf (Int.not_le.mp (fun q => h ((lg_cmp_ge _ _).mpr ((lL_le h3 h4 h1 h2).mpr q))))))
theorem ri_lcmp_gt (hexec : p.tables.exec = Jvm.exec) (hb : c.code = cc) {a b : Int} {off : Int} {tgt : Nat} (hdg : decode cc pc = .ok (.lcmp, 1)) (hdg2 : decode cc (pc + 1) = .ok (.ifCond .gt off, 3)) (ht : ((pc + 1 : Nat) : Int) + off = (tgt : Int))
    (kt : b < a → W p l e R s m args below meth c H locs cells slots Q (F0 m tgt ls (rest))) (kf : a ≤ b → W p l e R s m args below meth c H locs cells slots Q (F0 m (pc + 4) ls (rest))) (h1 : -9223372036854775808 ≤ a := by omega) (h2 : a ≤ 9223372036854775807 := by omega) (h3 : -9223372036854775808 ≤ b := by omega) (h4 : b ≤ 9223372036854775807 := by omega) : W p l e R s m args below meth c H locs cells slots Q (F0 m pc ls (.long (lL (b)) :: .long (lL (a)) :: rest)) := W.lcmp hexec hb hdg (lv_if_gt hexec hb hdg2 ht (fun h => kt ((lL_lt h3 h4 h1 h2).mp ((lg_cmp_gt _ _).mp h))) (fun h => kf (Int.not_lt.mp (fun q => h ((lg_cmp_gt _ _).mpr ((lL_lt h3 h4 h1 h2).mpr q))))))
theorem ri_lcmp_le (hexec : p.tables.exec = Jvm.exec) (hb : c.code = cc) {a b : Int} {off : Int} {tgt : Nat} (hdg : decode cc pc = .ok (.lcmp, 1)) (hdg2 : decode cc (pc + 1) = .ok (.ifCond .le off, 3)) (ht : ((pc + 1 : Nat) : Int) + off = (tgt : Int))
    (kt : a ≤ b → W p l e R s m args below meth c H locs cells slots Q (F0 m tgt ls (rest))) (kf : b < a → W p l e R s m args below meth c H locs cells slots Q (F0 m (pc + 4) ls (rest))) (h1 : -9223372036854775808 ≤ a := by omega) (h2 : a ≤ 9223372036854775807 := by omega) (h3 : -9223372036854775808 ≤ b := by omega) (h4 : b ≤ 9223372036854775807 := by omega) : W p l e R s m args below meth c H locs cells slots Q (F0 m pc ls (.long (lL (b)) :: .long (lL (a)) :: rest)) := W.lcmp hexec hb hdg (lv_if_le hexec hb hdg2 ht (fun h => kt ((lL_le h1 h2 h3 h4).mp ((lg_cmp_le _ _).mp h))) (fun h => kf (Int.not_le.mp (fun q => h ((lg_cmp_le _ _).mpr ((lL_le h1 h2 h3 h4).mpr q))))))
theorem sg_i {a b : Int} (h1 : -2147483648 ≤ a) (h2 : a ≤ 2147483647) (h3 : 0 < b) (h4 : b ≤ 2147483647) : (iI a ^^^ iI b).toInt < 0 ↔ a < 0 := by
  have e : (iI a ^^^ iI b).toBitVec.msb = decide ((iI a ^^^ iI b).toInt < 0) := BitVec.msb_eq_toInt
  have ea : (iI a).toBitVec.msb = decide ((iI a).toInt < 0) := BitVec.msb_eq_toInt
  have eb : (iI b).toBitVec.msb = decide ((iI b).toInt < 0) := BitVec.msb_eq_toInt
  rw [iI_to h1 h2] at ea
  rw [iI_to (by omega) h4, decide_eq_false (by omega)] at eb
  rw [Int32.toBitVec_xor, BitVec.msb_xor, ea, eb, Bool.xor_false] at e
  exact ⟨fun h => by rw [decide_eq_true h] at e; exact of_decide_eq_true e, fun h => by rw [decide_eq_true h] at e; exact of_decide_eq_true e.symm⟩
theorem sg_l {a b : Int} (h1 : -9223372036854775808 ≤ a) (h2 : a ≤ 9223372036854775807) (h3 : 0 < b) (h4 : b ≤ 9223372036854775807) : (lL a ^^^ lL b).toInt < 0 ↔ a < 0 := by
  have e : (lL a ^^^ lL b).toBitVec.msb = decide ((lL a ^^^ lL b).toInt < 0) := BitVec.msb_eq_toInt
  have ea : (lL a).toBitVec.msb = decide ((lL a).toInt < 0) := BitVec.msb_eq_toInt
  have eb : (lL b).toBitVec.msb = decide ((lL b).toInt < 0) := BitVec.msb_eq_toInt
  rw [lL_to h1 h2] at ea
  rw [lL_to (by omega) h4, decide_eq_false (by omega)] at eb
  rw [Int64.toBitVec_xor, BitVec.msb_xor, ea, eb, Bool.xor_false] at e
  exact ⟨fun h => by rw [decide_eq_true h] at e; exact of_decide_eq_true e, fun h => by rw [decide_eq_true h] at e; exact of_decide_eq_true e.symm⟩
theorem ri_ixor_ge (hexec : p.tables.exec = Jvm.exec) (hb : c.code = cc) {a b : Int} {off : Int} {tgt : Nat} (hdg : decode cc pc = .ok (.ixor, 1)) (hdg2 : decode cc (pc + 1) = .ok (.ifCond .ge off, 3)) (ht : ((pc + 1 : Nat) : Int) + off = (tgt : Int))
    (kt : 0 ≤ a → W p l e R s m args below meth c H locs cells slots Q (F0 m tgt ls (rest))) (kf : a < 0 → W p l e R s m args below meth c H locs cells slots Q (F0 m (pc + 4) ls (rest))) (h1 : -2147483648 ≤ a := by omega) (h2 : a ≤ 2147483647 := by omega) (h3 : 0 < b := by omega) (h4 : b ≤ 2147483647 := by omega) : W p l e R s m args below meth c H locs cells slots Q (F0 m pc ls (.int (iI (b)) :: .int (iI (a)) :: rest)) := lv_ixor hexec hb hdg (lv_if_ge hexec hb hdg2 ht (fun h => kt (Int.not_lt.mp (fun q => absurd ((sg_i h1 h2 h3 h4).mpr q) (Int.not_lt.mpr (Int32.le_iff_toInt_le.mp h))))) (fun h => kf (Int.not_le.mp (fun q => h (Int32.le_iff_toInt_le.mpr (Int.not_lt.mp (fun z => absurd ((sg_i h1 h2 h3 h4).mp z) (Int.not_lt.mpr q))))))))
theorem ri_lxor_ge (hexec : p.tables.exec = Jvm.exec) (hb : c.code = cc) {a b : Int} {off : Int} {tgt : Nat} (hdg : decode cc pc = .ok (.lxor, 1)) (hdg0 : decode cc (pc + 1) = .ok (.lconst 0, 1)) (hdg1 : decode cc (pc + 2) = .ok (.lcmp, 1)) (hdg2 : decode cc (pc + 3) = .ok (.ifCond .ge off, 3)) (ht : ((pc + 3 : Nat) : Int) + off = (tgt : Int))
    (kt : 0 ≤ a → W p l e R s m args below meth c H locs cells slots Q (F0 m tgt ls (rest))) (kf : a < 0 → W p l e R s m args below meth c H locs cells slots Q (F0 m (pc + 6) ls (rest))) (h1 : -9223372036854775808 ≤ a := by omega) (h2 : a ≤ 9223372036854775807 := by omega) (h3 : 0 < b := by omega) (h4 : b ≤ 9223372036854775807 := by omega) : W p l e R s m args below meth c H locs cells slots Q (F0 m pc ls (.long (lL (b)) :: .long (lL (a)) :: rest)) := lv_lxor hexec hb hdg (lv_lconst (v := 0) hexec hb hdg0 (by decide) (W.lcmp hexec hb hdg1 (lv_if_ge hexec hb hdg2 ht (fun h => kt (Int.not_lt.mp (fun q => absurd ((sg_l h1 h2 h3 h4).mpr q) (Int.not_lt.mpr (Int64.le_iff_toInt_le.mp ((lg_cmp_ge _ _).mp h)))))) (fun h => kf (Int.not_le.mp (fun q => h ((lg_cmp_ge _ _).mpr (Int64.le_iff_toInt_le.mpr (Int.not_lt.mp (fun z => absurd ((sg_l h1 h2 h3 h4).mp z) (Int.not_lt.mpr q)))))))))))
end RI
end
section
/-! Contracts in one form: the claim's words at a state (tk), the world's cells, a definite answer; pure methods (the heap stays) and methods that write in their cells. -/
def wA (wc : va_W) (q : Nat) : Prop := ∃ (k : Nat) (e : va_E), wc[k]? = some (q, e)
def cPre (D : va_G) (tys : List (ClassId × FieldType)) (av : List Value) (wc : va_W) : Array Value → State → Prop :=
  va_Pc av (fun U => tk U ∧ va_K D vwCl tys U ∧ va_P D vwCl wc U.heap ∧ va_D (fun _ => True) wc)
theorem cPre_blind {D : va_G} {tys : List (ClassId × FieldType)} {av : List Value} {wc : va_W} : FrameBlind (cPre D tys av wc) := by
  intro a U g mk h
  obtain ⟨h0, h1, h2, h3, h4⟩ := h
  exact ⟨h0, tk_warm (s := U) (U := U.calling g mk a) (State.WarmedH.refl U) h1, va_K.moved (u := U) (U := U.calling g mk a) (Vm.Alike.refl U.vm) h2, h3, h4⟩
def pQ (v : Value) : Array Value → State → Outcome → State → Prop := fun _ st o t => o = .returned (some v) ∧ t.heap = st.heap
def mQ (D : va_G) (wc : va_W) (ans : Option Value) (w1 : va_W) : Array Value → State → Outcome → State → Prop := fun _ st o t => o = .returned ans ∧ va_P D vwCl w1 t.heap ∧ va_F (wA wc) st t
def pMet (l : Launch) (y : MethodName) (cc : ByteArray) (n : Nat) (r : Option FieldType) (rm : Room) (D : va_G) (tys : List (ClassId × FieldType)) (av : List Value) (wc : va_W) (v : Value) : Prop :=
  Met l y [Cond.code y cc n r] rm (cPre D tys av wc) (pQ v) 0 0 (fun _ => False)
def mMet (l : Launch) (y : MethodName) (cc : ByteArray) (n : Nat) (r : Option FieldType) (rm : Room) (D : va_G) (tys : List (ClassId × FieldType)) (av : List Value) (wc : va_W) (ans : Option Value) (w1 : va_W) : Prop :=
  Met l y [Cond.code y cc n r] rm (cPre D tys av wc) (mQ D wc ans w1) 0 0 (wA wc)
section CM
variable {l : Launch} {y : MethodName} {cc : ByteArray} {n : Nat} {r : Option FieldType} {rm : Room} {D : va_G} {tys : List (ClassId × FieldType)} {av : List Value} {wc w1 : va_W} {v : Value} {ans : Option Value}
theorem pMet_of (hy : plainName y.cls = true) (hn : (lg_sl av).length ≤ n)
    (body : ∀ p e s m below meth c, p.tables.exec = Jvm.exec → c.code = cc → meth.sig.returnType = r → s.vm.findClass y.cls = some m.cls → meth.locks = false → c.maxLocals = n → tk s → va_K D vwCl tys s → va_P D vwCl wc s.heap → va_D (fun _ => True) wc →
      ∀ ls : Array Slot, lv_has ls n (lv_args 0 av) → W p l e rm s m av.toArray below meth c s.heap [] 0 0 (MQ below (pQ v) av.toArray s 0 0 (fun _ => False)) (F0 m 0 ls [])) : pMet l y cc n r rm D tys av wc v := by
  refine Met.ofW (cc := cc) (maxL := n) (ret := r) hy rfl ?_
  intro p e s m args below meth c s₁ B hml hv
  obtain ⟨rfl, h1, h2, h3, h4⟩ := hv
  have hl := lv_entry av (n := n) hn
  rw [lg_entry_eq]
  exact body p e s m below meth c B.exec B.bytes B.returns (findClass_of_methodNamed B.named) B.notSynchronized hml h1 h2 h3 h4 _ hl
theorem mMet_of (hy : plainName y.cls = true) (hn : (lg_sl av).length ≤ n)
    (body : ∀ p e s m below meth c, p.tables.exec = Jvm.exec → c.code = cc → meth.sig.returnType = r → s.vm.findClass y.cls = some m.cls → meth.locks = false → c.maxLocals = n → tk s → va_K D vwCl tys s → va_P D vwCl wc s.heap → va_D (wA wc) wc → va_S (wA wc) s.heap s.heap [] →
      ∀ ls : Array Slot, lv_has ls n (lv_args 0 av) → W p l e rm s m av.toArray below meth c s.heap [] 0 0 (MQ below (mQ D wc ans w1) av.toArray s 0 0 (wA wc)) (F0 m 0 ls [])) : mMet l y cc n r rm D tys av wc ans w1 := by
  refine Met.ofW (cc := cc) (maxL := n) (ret := r) hy rfl ?_
  intro p e s m args below meth c s₁ B hml hv
  obtain ⟨rfl, h1, h2, h3, h4⟩ := hv
  have hl := lv_entry av (n := n) hn
  rw [lg_entry_eq]
  exact body p e s m below meth c B.exec B.bytes B.returns (findClass_of_methodNamed B.named) B.notSynchronized hml h1 h2 h3 ⟨h4.1, fun k q hk => ⟨k, q.2, hk⟩⟩ va_S.rf _ hl
end CM
section CR
variable {p : Program} {l : Launch} {e : Env} {R : Room} {s : State} {m : MethodId} {args : Array Value} {below : List Frame} {meth : Method} {c : Code} {H : Heap} {locs : List Loc} {cells slots : Nat} {Q : State → Prop}
variable {cc : ByteArray} {pc : Nat} {ls : Array Slot} {rest : List Value}
theorem p_iret {x z : Int} (hx : p.tables.exec = Jvm.exec) (hb : c.code = cc) (hr : meth.sig.returnType = some .int) (hlk : meth.locks = false) (hdg : decode cc pc = .ok (.ireturn, 1)) (h : x = z) :
    W p l e R s m args below meth c s.heap [] 0 0 (MQ below (pQ (.int (iI z))) args s 0 0 (fun _ => False)) (F0 m pc ls [.int (iI x)]) := by
  subst h
  exact W.iret hx hb hr (fun t ht _ => ⟨rfl, ht⟩) (fun _ h => by cases h) hdg hlk
theorem p_lret {x z : Int} (hx : p.tables.exec = Jvm.exec) (hb : c.code = cc) (hr : meth.sig.returnType = some .long) (hlk : meth.locks = false) (hdg : decode cc pc = .ok (.lreturn, 1)) (h : x = z) :
    W p l e R s m args below meth c s.heap [] 0 0 (MQ below (pQ (.long (lL z))) args s 0 0 (fun _ => False)) (F0 m pc ls [.long (lL x)]) := by
  subst h
  exact W.lret hx hb hr (fun t ht _ => ⟨rfl, ht⟩) (fun _ h => by cases h) hdg hlk
theorem zb_nar {x : Int} (h : x = 0 ∨ x = 1) : narrow .boolean (.int (iI x)) = .int (iI x) := by rcases h with rfl | rfl <;> rfl
theorem p_zret {x z : Int} (hx : p.tables.exec = Jvm.exec) (hb : c.code = cc) (hr : meth.sig.returnType = some .boolean) (hlk : meth.locks = false) (hdg : decode cc pc = .ok (.ireturn, 1)) (h : x = z) (h01 : x = 0 ∨ x = 1 := by omega) :
    W p l e R s m args below meth c s.heap [] 0 0 (MQ below (pQ (.int (iI z))) args s 0 0 (fun _ => False)) (F0 m pc ls [.int (iI x)]) := by
  subst h
  exact W.zret hx hb hr (zb_nar h01) (fun t ht _ => ⟨rfl, ht⟩) (fun _ h => by cases h) hdg hlk
theorem p_aret {q : Nat} {C : String} (hx : p.tables.exec = Jvm.exec) (hb : c.code = cc) (hr : meth.sig.returnType = some (.object C)) (hlk : meth.locks = false) (hdg : decode cc pc = .ok (.areturn, 1)) :
    W p l e R s m args below meth c s.heap [] 0 0 (MQ below (pQ (.ref q)) args s 0 0 (fun _ => False)) (F0 m pc ls [.ref q]) :=
  W.aret hx hb hr (Or.inl ⟨_, rfl⟩) (Or.inr ⟨_, rfl⟩) (fun t ht _ => ⟨rfl, ht⟩) (fun _ h => by cases h) hdg hlk
variable {D : va_G} {wc w w1 : va_W}
theorem m_vret (hx : p.tables.exec = Jvm.exec) (hb : c.code = cc) (hr : meth.sig.returnType = none) (hlk : meth.locks = false) (hP : va_P D vwCl w H) (hS : va_S (wA wc) s.heap H locs) (hdg : decode cc pc = .ok (.return_, 1)) (h : w = w1) :
    W p l e R s m args below meth c H locs 0 0 (MQ below (mQ D wc none w1) args s 0 0 (wA wc)) (F0 m pc ls []) := by
  subst h
  exact W.vret hx hb hr (fun t ht _ => ⟨rfl, by rw [ht]; exact hP, hS.F ht⟩) hS.2.2 hdg hlk
theorem m_iret {x z : Int} (hx : p.tables.exec = Jvm.exec) (hb : c.code = cc) (hr : meth.sig.returnType = some .int) (hlk : meth.locks = false) (hP : va_P D vwCl w H) (hS : va_S (wA wc) s.heap H locs) (hdg : decode cc pc = .ok (.ireturn, 1)) (h : w = w1) (h2 : x = z) :
    W p l e R s m args below meth c H locs 0 0 (MQ below (mQ D wc (some (.int (iI z))) w1) args s 0 0 (wA wc)) (F0 m pc ls [.int (iI x)]) := by
  subst h; subst h2
  exact W.iret hx hb hr (fun t ht _ => ⟨rfl, by rw [ht]; exact hP, hS.F ht⟩) hS.2.2 hdg hlk
theorem m_lret {x z : Int} (hx : p.tables.exec = Jvm.exec) (hb : c.code = cc) (hr : meth.sig.returnType = some .long) (hlk : meth.locks = false) (hP : va_P D vwCl w H) (hS : va_S (wA wc) s.heap H locs) (hdg : decode cc pc = .ok (.lreturn, 1)) (h : w = w1) (h2 : x = z) :
    W p l e R s m args below meth c H locs 0 0 (MQ below (mQ D wc (some (.long (lL z))) w1) args s 0 0 (wA wc)) (F0 m pc ls [.long (lL x)]) := by
  subst h; subst h2
  exact W.lret hx hb hr (fun t ht _ => ⟨rfl, by rw [ht]; exact hP, hS.F ht⟩) hS.2.2 hdg hlk
end CR
/-- cells put in place of others at the same addresses -/
def wset (W0 : va_W) : List Nat → va_W → va_W
  | i :: is, x :: xs => wset (W0.set i x) is xs
  | [], _ => W0
  | _ :: _, [] => W0
theorem wset_cases : ∀ (is : List Nat) (xs W0 : va_W) (k : Nat) (q : Nat × va_E), (wset W0 is xs)[k]? = some q → (∃ j : Nat, xs[j]? = some q ∧ is[j]? = some k) ∨ (W0[k]? = some q ∧ ∀ j : Nat, j < xs.length → is[j]? ≠ some k)
  | [], xs, W0, k, q, h => Or.inr ⟨by cases xs <;> exact h, fun j _ => by simp⟩
  | i :: is, [], W0, k, q, h => Or.inr ⟨h, fun j hj => by simp at hj⟩
  | i :: is, x :: xs, W0, k, q, h => by
    rcases wset_cases is xs (W0.set i x) k q h with ⟨j, h1, h2⟩ | ⟨h1, h2⟩
    · exact Or.inl ⟨j + 1, by simpa using h1, by simpa using h2⟩
    · by_cases e : i = k
      · subst e
        have hlt : i < W0.length := by
          have := (List.getElem?_eq_some_iff.mp h1).1
          simpa using this
        rw [List.getElem?_set_self hlt] at h1
        cases h1
        exact Or.inl ⟨0, rfl, rfl⟩
      · rw [List.getElem?_set_ne e] at h1
        refine Or.inr ⟨h1, fun j hj => ?_⟩
        cases j with
        | zero => simpa using e
        | succ j => simpa using h2 j (by simpa using hj)
theorem wset_fst : ∀ (is : List Nat) (xs W0 : va_W), (∀ (j i : Nat) (x : Nat × va_E), is[j]? = some i → xs[j]? = some x → (W0.map Prod.fst)[i]? = some x.1) → (wset W0 is xs).map Prod.fst = W0.map Prod.fst
  | [], xs, _, _ => by cases xs <;> rfl
  | _ :: _, [], _, _ => rfl
  | i :: is, x :: xs, W0, h => by
    have h0 : (W0.map Prod.fst)[i]? = some x.1 := h 0 i x rfl rfl
    have e : (W0.set i x).map Prod.fst = W0.map Prod.fst := by
      rw [List.map_set]
      refine List.ext_getElem? (fun k => ?_)
      by_cases hk : i = k
      · subst hk
        rw [List.getElem?_set_self (by have := (List.getElem?_eq_some_iff.mp h0).1; exact this), h0]
      · rw [List.getElem?_set_ne hk]
    show (wset (W0.set i x) is xs).map Prod.fst = _
    rw [wset_fst is xs (W0.set i x) (fun j i' x' h1 h2 => by rw [e]; exact h (j + 1) i' x' (by simpa using h1) (by simpa using h2)), e]
theorem va_D_fst {A : Nat → Prop} {ws ws' : va_W} (hD : va_D A ws) (h : ws'.map Prod.fst = ws.map Prod.fst) : va_D A ws' := by
  have key : ∀ (k : Nat) (q : Nat × va_E), ws'[k]? = some q → ∃ q0, ws[k]? = some q0 ∧ q0.1 = q.1 := by
    intro k q hk
    have h1 : (ws'.map Prod.fst)[k]? = some q.1 := by rw [List.getElem?_map, hk]; rfl
    rw [h, List.getElem?_map] at h1
    cases hq : ws[k]? with
    | none => rw [hq] at h1; cases h1
    | some q0 => rw [hq] at h1; exact ⟨q0, rfl, Option.some.inj h1⟩
  refine ⟨fun i j x y hi hj hxy => ?_, fun k q hk => ?_⟩
  · obtain ⟨x0, h1, h2⟩ := key i x hi
    obtain ⟨y0, h3, h4⟩ := key j y hj
    exact hD.1 i j x0 y0 h1 h3 (h2.trans (hxy.trans h4.symm))
  · obtain ⟨q0, h1, h2⟩ := key k q hk
    rw [← h2]; exact hD.2 k q0 h1
theorem wat {is : List Nat} {ws w : va_W} (h : is.map (fun i => ws[i]?) = w.map some) (k : Nat) (q : Nat × va_E) (hq : w[k]? = some q) : ∃ i, is[k]? = some i ∧ ws[i]? = some q := by
  have h1 : (is.map (fun i => ws[i]?))[k]? = some (some q) := by rw [h, List.getElem?_map, hq]; rfl
  rw [List.getElem?_map] at h1
  cases hi : is[k]? with
  | none => rw [hi] at h1; cases h1
  | some i => rw [hi] at h1; exact ⟨i, rfl, Option.some.inj h1⟩
theorem wcut {is : List Nat} {ws w : va_W} (h : is.map (fun i => ws[i]?) = w.map some) : is.filterMap (fun i => ws[i]?) = w := by
  induction is generalizing w with
  | nil => cases w with
    | nil => rfl
    | cons a b => cases h
  | cons i is ih => cases w with
    | nil => cases h
    | cons a b =>
      simp only [List.map_cons, List.cons.injEq] at h
      rw [List.filterMap_cons, h.1, ih h.2]
/-- behind a call that wrote in its cells -/
theorem wjoin {A : Nat → Prop} {D : va_G} {W0 wc w1 : va_W} {H H1 : Heap} {is : List Nat} (hP : va_P D vwCl W0 H) (hD : va_D A W0) (hC : is.map (fun i => W0[i]?) = wc.map some) (hf : w1.map Prod.fst = wc.map Prod.fst)
    (hk : ∀ q : Nat, q < H.size → ¬ wA wc q → H1[q]? = H[q]?) (hP1 : va_P D vwCl w1 H1) : va_P D vwCl (wset W0 is w1) H1 ∧ va_D A (wset W0 is w1) := by
  have hlen : w1.length = wc.length := by simpa using congrArg List.length hf
  have hlen2 : is.length = wc.length := by simpa using congrArg List.length hC
  refine ⟨fun k q hq => ?_, va_D_fst hD (wset_fst is w1 W0 (fun j i x h1 h2 => ?_))⟩
  · rcases wset_cases is w1 W0 k q hq with ⟨j, h1, -⟩ | ⟨h1, h2⟩
    · exact hP1 j q h1
    · have hl := (hP k q h1).lt
      refine (hP k q h1).kept (hk q.1 hl ?_)
      rintro ⟨j, ee, hj⟩
      obtain ⟨i, g1, g2⟩ := wat hC j (q.1, ee) hj
      have hik := hD.1 k i q (q.1, ee) h1 g2 rfl
      subst hik
      exact h2 j (by rw [hlen]; exact (List.getElem?_eq_some_iff.mp hj).1) g1
  · have e1 : (wc.map Prod.fst)[j]? = some x.1 := by rw [← hf, List.getElem?_map, h2]; rfl
    rw [List.getElem?_map] at e1
    cases hj : wc[j]? with
    | none => rw [hj] at e1; cases e1
    | some x0 =>
      rw [hj] at e1
      obtain ⟨i2, g1, g2⟩ := wat hC j x0 hj
      cases h1.symm.trans g1
      rw [List.getElem?_map, g2]
      exact e1
section CC
variable {p : Program} {l : Launch} {e : Env} {R : Room} {s : State} {m : MethodId} {args : Array Value} {below : List Frame} {meth : Method} {c : Code} {H : Heap} {locs : List Loc} {cells slots : Nat} {Q : State → Prop}
variable {cc : ByteArray} {pc : Nat} {ls : Array Slot} {rest st0 : List Value} {a : Array Value}
theorem p_run {v : Value} (hr : va_Run p l e R s m args below meth c H locs cells slots 0 0 (F0 m pc ls st0) rest (pQ v a) (fun _ => False))
    (kk : W p l e R s m args below meth c H locs cells slots Q (F0 m (pc + 3) ls (v :: rest))) : W p l e R s m args below meth c H locs cells slots Q (F0 m pc ls st0) := by
  intro T hT X
  obtain ⟨v', st₀, t, T', L, h0, X', hL, e1, e2, ⟨hv, hp⟩, st⟩ := hr T hT X
  cases hv
  have hL0 : L = [] := List.eq_nil_iff_forall_not_mem.mpr (fun q hq => hL q hq)
  subst hL0
  rw [List.append_nil] at X'
  obtain ⟨t2, a1, b1⟩ := kk T' (by rw [e1, hp, h0]) X'
  exact ⟨t2, st t2 a1, b1⟩
variable {D : va_G} {A : Nat → Prop} {H0 : Heap} {W0 wc w1 : va_W}
theorem m_run {ans : Option Value} (hr : va_Run p l e R s m args below meth c H locs cells slots 0 0 (F0 m pc ls st0) rest (mQ D wc ans w1 a) (wA wc)) (hP : va_P D vwCl W0 H) (hD : va_D A W0) (hS : va_S A H0 H locs)
    (is : List Nat) (hC : is.map (fun i => W0[i]?) = wc.map some) (hf : w1.map Prod.fst = wc.map Prod.fst)
    (kk : ∀ (H1 : Heap) (locs1 : List Loc), va_P D vwCl (wset W0 is w1) H1 → va_D A (wset W0 is w1) → va_S A H0 H1 locs1 → W p l e R s m args below meth c H1 locs1 cells slots Q (F0 m (pc + 3) ls (ans.toList ++ rest))) : W p l e R s m args below meth c H locs cells slots Q (F0 m pc ls st0) := by
  intro T hT X
  obtain ⟨v', st₀, t, T', L, h0, X', hL, e1, e2, ⟨hv, hp, hz, hk⟩, st⟩ := hr T hT X
  cases hv
  rw [h0] at hz hk
  have hA : ∀ q, wA wc q → A q := by
    rintro q ⟨k, ee, h⟩
    obtain ⟨i, -, g⟩ := wat hC k (q, ee) h
    exact hD.2 i (q, ee) g
  obtain ⟨j1, j2⟩ := wjoin hP hD hC hf hk hp
  obtain ⟨t2, a1, b1⟩ := kk T'.heap (locs ++ L) (by rw [e1]; exact j1) j2
    ⟨Nat.le_trans hS.1 (by rw [e1]; exact hz), fun q h1 h2 => by rw [e1, hk q (Nat.lt_of_lt_of_le h1 hS.1) (fun z => h2 (hA q z))]; exact hS.2.1 q h1 h2, fun q hq => by
      rcases List.mem_append.mp hq with h | h
      · exact hS.2.2 q h
      · exact hA _ (hL q h)⟩ T' rfl X'
  exact ⟨t2, st t2 a1, b1⟩
end CC
end
section
/-! Methods that may throw: their contracts, the throwing of a new exception, calls of such methods, the catching. -/
def xZ (n d : String) (aS : Nat) (U : State) (H : Heap) : Prop := ∃ (c : ClassId) (k : Class) (i : Nat) (f : Field) (cell : Cell) (u : RefV), U.vm.findClass Bundle.tN = some c ∧ U.fieldFound? Bundle.tN n d = some (c, k, i, f) ∧ f.isStatic = true ∧ k.statics = some aS ∧ H[aS]? = some cell ∧ cell.vm.isStatics = true ∧ cell.cls = c ∧ f.slot < cell.slots.size ∧ k.staticTypes[f.slot]? = some f.type ∧ cell.slots[f.slot]? = some u.v
theorem xZ.moved {n d : String} {aS : Nat} {u U : State} {H : Heap} (hvm : u.vm.Alike U.vm) (h : xZ n d aS u H) : xZ n d aS U H := by
  obtain ⟨c, k, i, f, cell, x, h1, h2, h3, h4, h5, h6, h7, h8, h9, h10⟩ := h
  obtain ⟨k', hi', he⟩ := State.fieldFound?_setVm hvm h2
  exact ⟨c, k', i, f, cell, x, by rw [hvm.findClass]; exact h1, hi', h3, by rw [he]; exact h4, h5, h6, h7, h8, by rw [he]; exact h9, h10⟩
theorem xZ.kept {n d : String} {aS : Nat} {U : State} {H H1 : Heap} (h : xZ n d aS U H) (hq : H1[aS]? = H[aS]?) : xZ n d aS U H1 := by
  obtain ⟨c, k, i, f, cell, x, h1, h2, h3, h4, h5, h6⟩ := h
  exact ⟨c, k, i, f, cell, x, h1, h2, h3, h4, by rw [hq]; exact h5, h6⟩
theorem xZ.word {n d : String} {aS : Nat} {s : State} {args : Array Value} (h : xZ n d aS s s.heap) : (Cond.laysStatic Bundle.tN n d).before args s = true := by
  obtain ⟨c, k, i, f, cell, x, h1, h2, h3, h4, h5, h6, h7, h8, h9, -⟩ := h
  show (Cond.laysStatic Bundle.tN n d).holds args s none s [] = true
  exact Cond.laysStatic_of h1 h2 h3 h4 h5 h6 h7 h8 h9
def xS (aS : Nat) (U : State) (H : Heap) : Prop := xZ "UNASSIGNED_STACK" Bundle.steD aS U H ∧ xZ "SUPPRESSED_SENTINEL" Bundle.listD aS U H ∧ aS < H.size
theorem xS.moved {aS : Nat} {u U : State} {H : Heap} (hvm : u.vm.Alike U.vm) (h : xS aS u H) : xS aS U H := ⟨h.1.moved hvm, h.2.1.moved hvm, h.2.2⟩
theorem xS.kept {aS : Nat} {U : State} {H H1 : Heap} (h : xS aS U H) (hq : H1[aS]? = H[aS]?) : xS aS U H1 := ⟨h.1.kept hq, h.2.1.kept hq, by
  obtain ⟨_, _, _, _, cell, _, _, _, _, _, h3, _⟩ := h.1
  rw [← hq] at h3
  exact (Array.getElem?_eq_some_iff.mp h3).1⟩
def xAtoms (own : String) (ic : Nat) (X : String) (names : List String) : List Cond :=
  Bundle.throwableAtoms ++ Bundle.chain0Atoms X names ++
  [.methodLink own ic (Bundle.init0 X), .instantiable X 6, .selects X Bundle.tFill0 Bundle.tFill0, .selects X Bundle.tFill Bundle.tFill,
   .lays X Bundle.tN "cause" "Ljava/lang/Throwable;", .lays X Bundle.tN "stackTrace" Bundle.steD, .lays X Bundle.tN "suppressedExceptions" Bundle.listD,
   .fieldLink Bundle.tN 198 Bundle.tN "backtrace" "Ljava/lang/Object;", .lays Bundle.tN Bundle.tN "backtrace" "Ljava/lang/Object;", .lays X Bundle.tN "backtrace" "Ljava/lang/Object;"]
set_option maxHeartbeats 1000000 in
/-- the constructor of a new exception, without a message, under a launch without stack traces -/
theorem x_ctor {p : Program} {l : Launch} {e : Env} {R : Room} {s : State} {m₀ : MethodId} {args : Array Value} {below : List Frame} {meth : Method} {c : Code} {T0 : State} {locs : List Loc} {cells slots : Nat}
    (X : Stand p l e R s m₀ args below meth c T0 locs cells slots) (hexec : p.tables.exec = Jvm.exec) (htr : e.platform.stackTraces = false) {own cls : String} {names : List String} {ic aS : Nat}
    (hown : s.vm.findClass own = some m₀.cls) (hcls : Bundle.fit cls = true) (hnames : ∀ n ∈ names, Bundle.fit n = true)
    (h : ∀ a ∈ xAtoms own ic cls names, a.before args s = true) (hZ : xS aS s T0.heap)
    {a : Addr} {cX : ClassId} {kX : Class} (hfoundX : s.vm.findClass cls = some cX) (hkX : s.vm.classes[cX]? = some kX) (hcell : T0.heap[a]? = some (freshCell cX kX)) (hnew : s.heap.size ≤ a) (hneS : aS ≠ a)
    {g : JFrame} (hg : g.method = m₀) (hsize : g.locals.size = c.maxLocals) {rest : List Value} (hstack : g.stack = .ref a :: .ref a :: rest)
    (hd6 : decode c.code g.pc = .ok (.invokespecial ic, 3))
    (hRframes : names.length + 3 < R.frames) (hRlocals : 2 * g.monitorRoom + ((Value.ref a :: rest).map fun v => v.category).sum + (13 * (names.length + 1) + 41) ≤ R.locals) :
    ∃ (vm' : Vm) (ce : Cell), ce.cls = cX ∧ ce.vm = .none ∧ Stand p l e R s m₀ args below meth c ((T0.setVm vm').setCell a ce) locs cells slots ∧
      ∀ target, Steps p.tables e below (((T0.setVm vm').setCell a ce).setTop { g with stack := .ref a :: rest, pc := g.pc + 3 }) target → Steps p.tables e below (T0.setTop g) target := by
  have howns : e.platform.frameOwnsMonitors = true := by rw [X.admits.platform]
  have hfin : e.platform.finalization = false := by rw [X.admits.platform]
  have hpl : e.platform.magicAccessors = ({} : Platform).magicAccessors := by rw [X.admits.platform]
  have a' : ∀ x, x ∈ xAtoms own ic cls names → x.holds args s none s [] = true := fun x hx => h x hx
  obtain ⟨T, Z, L, LZ, Y⟩ := ThrowableC.of_atoms (args := args) howns hfin hpl (fun x hx => h x (by simp [xAtoms, hx]))
  obtain ⟨P1, Ps, hlen, L1, hL, hP1m, hlink1, hlink⟩ := Bundle.chain0 (args := args) hpl Y.init0 names cls hcls hnames (fun x hx => h x (by simp [xAtoms, hx]))
  have hfound : s.vm.findClass cls = some P1.m.cls := findClass_of_methodNamed hP1m
  cases Option.some.inj (hfoundX.symm.trans hfound)
  obtain ⟨c1, kX', hc1, hk, hord, -, -, hn6⟩ := Cond.instantiable_spec (a' (.instantiable cls 6) (by simp [xAtoms]))
  cases Option.some.inj (hc1.symm.trans hfound)
  cases Option.some.inj (hkX.symm.trans hk)
  have hsel0 : selectMethod e.platform s.vm P1.m.cls T.fill0 = .method T.fill0 := by
    obtain ⟨c2, r2, m2, q1, q2, q3, q4, -⟩ := Cond.selects_spec (a' (.selects cls Bundle.tFill0 Bundle.tFill0) (by simp [xAtoms]))
    cases Option.some.inj (q1.symm.trans hfound)
    cases Option.some.inj (q2.symm.trans (State.methodFound?_of_named Y.fill0 (by decide)))
    cases Option.some.inj (q3.symm.trans Y.fill0)
    rw [Launch.admits_selectMethod X.admits]; exact q4
  have hselF : selectMethod e.platform s.vm P1.m.cls T.fill = .method T.fill := by
    obtain ⟨c2, r2, m2, q1, q2, q3, q4, -⟩ := Cond.selects_spec (a' (.selects cls Bundle.tFill Bundle.tFill) (by simp [xAtoms]))
    cases Option.some.inj (q1.symm.trans hfound)
    cases Option.some.inj (q2.symm.trans (State.methodFound?_of_named Y.fill (by decide)))
    cases Option.some.inj (q3.symm.trans Y.fill)
    rw [Launch.admits_selectMethod X.admits]; exact q4
  obtain ⟨⟨cf1, kf1, fi1, f1, cell1, u0, -, hf1, -, hs1, hc1', hi1, -, -, -, hv1⟩, ⟨cf2, kf2, fi2, f2, cell2, sen, -, hf2, -, hs2, hc2', hi2, -, -, -, hv2⟩, -⟩ := hZ
  cases hf1.symm.trans Y.unassigned
  cases hf2.symm.trans Y.sentinel
  cases hs1.symm.trans L.statics
  cases hc1'.symm.trans hc2'
  obtain ⟨ci198, i198, fB, hk198, hg198, ha198, hsB, -, hnB, htB, hffB⟩ := Cond.ownField (t := .object "java/lang/Object") Y.found L.cls (by decide +kernel) (a' (.fieldLink Bundle.tN 198 Bundle.tN "backtrace" "Ljava/lang/Object;") (by simp [xAtoms])) (a' (.lays Bundle.tN Bundle.tN "backtrace" "Ljava/lang/Object;") (by simp [xAtoms])) e.platform hpl
  have hknownS : cell1.vm ≠ .unknown := by
    intro hu
    rw [hu] at hi1
    cases hi1
  obtain ⟨tyC, dC, hdC, hdnC⟩ := Cond.laysAt hfound hk Y.cause (a' (.lays cls Bundle.tN "cause" "Ljava/lang/Throwable;") (by simp [xAtoms]))
  obtain ⟨tyS, dS, hdS, hdnS⟩ := Cond.laysAt hfound hk Y.stack (a' (.lays cls Bundle.tN "stackTrace" Bundle.steD) (by simp [xAtoms]))
  obtain ⟨tyP, dP, hdP, hdnP⟩ := Cond.laysAt hfound hk Y.supp (a' (.lays cls Bundle.tN "suppressedExceptions" Bundle.listD) (by simp [xAtoms]))
  obtain ⟨tyB, dB, hdB, hdnB⟩ := Cond.laysAt hfound hk hffB (a' (.lays cls Bundle.tN "backtrace" "Ljava/lang/Object;") (by simp [xAtoms]))
  have bC := Cond.laysApart hdB hdC hdnB hdnC (by rw [hnB, Y.causeName]; decide)
  have bS := Cond.laysApart hdB hdS hdnB hdnS (by rw [hnB, Y.stackName]; decide)
  have bP := Cond.laysApart hdB hdP hdnB hdnP (by rw [hnB, Y.suppName]; decide)
  have hskip : SkipFacts T e.platform s (fun u => u) u0 ((preparedCellV T.toThrowableT (freshCell P1.m.cls kX) a u0 sen).withEntry T0.cur) :=
    ⟨{ ci198 := ci198, i198 := i198, fBack := fB }, ⟨hk198, hg198, ha198, hsB⟩, by
      have := fresh_default (c := P1.m.cls) tyB
      rw [htB] at this
      simpa [preparedCellV, Cell.setSlot, Cell.withEntry, Array.getElem?_setIfInBounds, bC, bS, bP, bC.symm, bS.symm, bP.symm, defaultValue] using this, fun _ _ => rfl⟩
  obtain ⟨tm, methC, cdC, kC, vm₁, hnC, -, -, -, -, -, -, -, hW₁, st1⟩ := Steps.initCold (tb := p.tables) (e := e) (below := below) (s := s) (U := T0) X.here hexec X.warmed hpl hown (t := Bundle.init0 cls) rfl rfl (Bundle.fit_spec hcls).2
    (a' (.methodLink own ic (Bundle.init0 cls)) (by simp [xAtoms])) (h (.instanceMethod (Bundle.init0 cls)) (by cases names <;> simp [xAtoms, Bundle.chain0Atoms, Bundle.passAtoms])) (bytes := Bundle.five) (maxL := 1) (h (.code (Bundle.init0 cls) Bundle.five 1 none) (by cases names <;> simp [xAtoms, Bundle.chain0Atoms, Bundle.passAtoms]))
    (f := g) hg (a := a) (rest := .ref a :: rest) hstack hd6
  cases Option.some.inj (hnC.symm.trans hP1m)
  have X₁ := X.noted hW₁
  obtain ⟨vm₂, X₂, st2⟩ := X₁.ctorPlainOffV hexec (g := { g with stack := .ref a :: rest }) hg hsize T L Z LZ (P1 :: Ps)
    (fun P hP => by rcases List.mem_cons.mp hP with rfl | hP; exact L1; exact hL P hP) ⟨hlink1, hlink⟩ (u0 := u0) (sen := sen) (self := a) (cell := freshCell P1.m.cls kX) (cellS := cell1)
    hcell (fun _ => by simp) (by simp) rfl rfl hsel0 hselF hc1' hneS hknownS hv1 hv2
    (Takes.of_laid hk hord tyC (by rw [Y.causeType]; rfl)) (Takes.of_laid hk hord tyS (by rw [Y.stackType]; exact fits_refV_array _ u0)) (Takes.of_laid hk hord tyP (by rw [Y.suppType]; exact fits_refV_object _ sen)) Y.objLocals hskip htr [] hd6
    (by simp only [List.length_cons, hlen]; omega) (by simp only [List.length_cons, hlen]; exact hRlocals)
  refine ⟨vm₂, _, rfl, rfl, X₂.forget (fun y hy => ?_), fun target ht => st1 _ (fun acts => ?_)⟩
  · have hb : y.base = a := by
      simp only [List.mem_cons, List.not_mem_nil, or_false] at hy
      rcases hy with rfl | rfl | rfl | rfl <;> rfl
    rw [hb]; exact hnew
  · rw [doInvoke_state]
    exact st2 _ ht
def xCnt (o : Outcome) (k n : Nat) : Prop := match o with
  | .returned _ => k = 0 ∧ n = 0
  | .threw _ => k = 1 ∧ n = 6
def xEnd (wc : va_W) (st : State) (o : Outcome) (t : State) : Prop := ∃ (L : List Loc) (k n : Nat), st.WarmedH t.vm ∧ st.sameButNew ({ t with vm := st.vm } : State) L k n ∧ xCnt o k n ∧ ∀ q ∈ L, wA wc q.base
def xPre (D : va_G) (tys : List (ClassId × FieldType)) (aS : Nat) (av : List Value) (wc : va_W) : Array Value → State → Prop :=
  va_Pc av (fun U => tk U ∧ va_K D vwCl tys U ∧ va_P D vwCl wc U.heap ∧ va_D (fun q => q ≠ aS) wc ∧ xS aS U U.heap)
/-- an exception of the class X lies at x -/
def xAt (X : String) (x : Nat) (t : State) : Prop := ∃ ce : Cell, t.heap[x]? = some ce ∧ ce.vm = .none ∧ t.vm.findClass X = some ce.cls
def xQ (D : va_G) (wc : va_W) (res : Option (Option Value)) (X : String) (w1 : va_W) : Array Value → State → Outcome → State → Prop := fun _ st o t =>
  va_P D vwCl w1 t.heap ∧ va_F (wA wc) st t ∧ match res with
    | some ans => o = .returned ans
    | none => ∃ x : Nat, o = .threw x ∧ st.heap.size ≤ x ∧ xAt X x t
def xMet (l : Launch) (y : MethodName) (cc : ByteArray) (n : Nat) (r : Option FieldType) (rm : Room) (D : va_G) (tys : List (ClassId × FieldType)) (aS : Nat) (av : List Value) (wc : va_W) (res : Option (Option Value)) (X : String) (w1 : va_W) : Prop :=
  MetFree l y (headSpec [Cond.code y cc n r] rm) (xPre D tys aS av wc) (fun _ _ _ _ _ => True) (fun a st o t => xQ D wc res X w1 a st o t ∧ xEnd wc st o t)
def xMQ (below : List Frame) (Qc : Array Value → State → Outcome → State → Prop) (a : Array Value) (s : State) (wc : va_W) : State → Prop := fun t =>
  ∃ o, t.status = .running ∧ Ended t below o ∧ Qc a s o t ∧ xEnd wc s o t
theorem xMet_of {l : Launch} {y : MethodName} {cc : ByteArray} {n : Nat} {r : Option FieldType} {rm : Room} {D : va_G} {tys : List (ClassId × FieldType)} {aS : Nat} {av : List Value} {wc w1 : va_W} {res : Option (Option Value)} {X : String} (hy : plainName y.cls = true) (hn : (lg_sl av).length ≤ n)
    (body : ∀ p e s m below meth c, p.tables.exec = Jvm.exec → c.code = cc → meth.sig.returnType = r → s.vm.findClass y.cls = some m.cls → meth.locks = false → c.maxLocals = n → c.exceptionTable.isEmpty = true → tk s → va_K D vwCl tys s → va_P D vwCl wc s.heap → va_D (wA wc) wc → va_S (wA wc) s.heap s.heap [] → (∀ q, wA wc q → q ≠ aS) → xS aS s s.heap →
      ∀ ls : Array Slot, lv_has ls n (lv_args 0 av) → W p l e rm s m av.toArray below meth c s.heap [] 0 0 (xMQ below (xQ D wc res X w1) av.toArray s wc) (F0 m 0 ls [])) : xMet l y cc n r rm D tys aS av wc res X w1 := by
  refine MetFree.of_bodyS (code := cc) (maxLocals := n) (ret := r) hy ?_ ?_
  · intro args s m h hn
    obtain ⟨meth, c, h1, h2, h3, h4, h5, h6, -, -⟩ := Cond.code_spec hn (atoms_spec (ws := [Cond.code y cc n r]) h _ List.mem_cons_self)
    exact ⟨meth, c, h1, h2, h3, h4, h5, h6⟩
  · intro p e s m args below meth c s₁ B hml hv _
    obtain ⟨rfl, h1, h2, h3, h4, h5⟩ := hv
    have hh0 : s₁.heap = s.heap := by rw [B.state]; rfl
    have hl := lv_entry av (n := n) hn
    have hE := B.noHandlers (atoms_spec (ws := [Cond.code y cc n r]) B.pre _ List.mem_cons_self)
    have K := body p e s m below meth c B.exec B.bytes B.returns (findClass_of_methodNamed B.named) B.notSynchronized hml hE h1 h2 h3 ⟨h4.1, fun k q hk => ⟨k, q.2, hk⟩⟩ va_S.rf (fun q hq => by obtain ⟨k, ee, hk⟩ := hq; exact h4.2 k (q, ee) hk) h5 _ hl
    rw [← lg_entry_eq] at K
    obtain ⟨t, a1, o, b1, b2, b3⟩ := K s₁ hh0 (Stand.of_body B)
    exact ⟨t, o, a1, b1, b2, ⟨b3.1, b3.2⟩⟩
section XR
variable {p : Program} {l : Launch} {e : Env} {R : Room} {s : State} {m : MethodId} {args : Array Value} {below : List Frame} {meth : Method} {c : Code} {H : Heap} {locs : List Loc} {cells slots : Nat} {Q : State → Prop}
variable {cc : ByteArray} {pc : Nat} {ls : Array Slot} {rest : List Value} {D : va_G} {wc w w1 : va_W} {res : Option (Option Value)} {X : String}
theorem x_mono {Q' : State → Prop} {g : JFrame} (h : ∀ t, Q t → Q' t) (k : W p l e R s m args below meth c H locs cells slots Q g) : W p l e R s m args below meth c H locs cells slots Q' g := by
  intro T hT X
  obtain ⟨t, a, b⟩ := k T hT X
  exact ⟨t, a, h t b⟩
theorem xr_of {Qc : Array Value → State → Outcome → State → Prop} : ∀ t, MQ below Qc args s 0 0 (wA wc) t → xMQ below Qc args s wc t := by
  rintro t ⟨o, h1, h2, h3, L, ⟨⟨v, rfl⟩, h4, h5⟩, h6⟩
  exact ⟨_, h1, h2, h3, L, 0, 0, h4, h5, ⟨rfl, rfl⟩, h6⟩
theorem x_vret (hx : p.tables.exec = Jvm.exec) (hb : c.code = cc) (hr : meth.sig.returnType = none) (hlk : meth.locks = false) (hP : va_P D vwCl w H) (hS : va_S (wA wc) s.heap H locs) (hdg : decode cc pc = .ok (.return_, 1)) (h : w = w1) (hres : res = some none) :
    W p l e R s m args below meth c H locs 0 0 (xMQ below (xQ D wc res X w1) args s wc) (F0 m pc ls []) := by
  subst h; subst hres
  exact x_mono xr_of (W.vret hx hb hr (fun t ht _ => ⟨by rw [ht]; exact hP, hS.F ht, rfl⟩) hS.2.2 hdg hlk)
theorem x_iret {x z : Int} (hx : p.tables.exec = Jvm.exec) (hb : c.code = cc) (hr : meth.sig.returnType = some .int) (hlk : meth.locks = false) (hP : va_P D vwCl w H) (hS : va_S (wA wc) s.heap H locs) (hdg : decode cc pc = .ok (.ireturn, 1)) (h : w = w1) (hres : res = some (some (.int (iI z)))) (h2 : x = z) :
    W p l e R s m args below meth c H locs 0 0 (xMQ below (xQ D wc res X w1) args s wc) (F0 m pc ls [.int (iI x)]) := by
  subst h; subst hres; subst h2
  exact x_mono xr_of (W.iret hx hb hr (fun t ht _ => ⟨by rw [ht]; exact hP, hS.F ht, rfl⟩) hS.2.2 hdg hlk)
theorem x_lret {x z : Int} (hx : p.tables.exec = Jvm.exec) (hb : c.code = cc) (hr : meth.sig.returnType = some .long) (hlk : meth.locks = false) (hP : va_P D vwCl w H) (hS : va_S (wA wc) s.heap H locs) (hdg : decode cc pc = .ok (.lreturn, 1)) (h : w = w1) (hres : res = some (some (.long (lL z)))) (h2 : x = z) :
    W p l e R s m args below meth c H locs 0 0 (xMQ below (xQ D wc res X w1) args s wc) (F0 m pc ls [.long (lL x)]) := by
  subst h; subst hres; subst h2
  exact x_mono xr_of (W.lret hx hb hr (fun t ht _ => ⟨by rw [ht]; exact hP, hS.F ht, rfl⟩) hS.2.2 hdg hlk)
theorem x_aret {q : Nat} {C : String} (hx : p.tables.exec = Jvm.exec) (hb : c.code = cc) (hr : meth.sig.returnType = some (.object C)) (hlk : meth.locks = false) (hP : va_P D vwCl w H) (hS : va_S (wA wc) s.heap H locs) (hdg : decode cc pc = .ok (.areturn, 1)) (h : w = w1) (hres : res = some (some (.ref q))) :
    W p l e R s m args below meth c H locs 0 0 (xMQ below (xQ D wc res X w1) args s wc) (F0 m pc ls [.ref q]) := by
  subst h; subst hres
  exact x_mono xr_of (W.aret hx hb hr (Or.inl ⟨_, rfl⟩) (Or.inr ⟨_, rfl⟩) (fun t ht _ => ⟨by rw [ht]; exact hP, hS.F ht, rfl⟩) hS.2.2 hdg hlk)
/-- the words of a new exception's throwing: new at ix, the constructor at ic -/
def xWords (own : String) (ix ic : Nat) (X : String) (names : List String) : Prop := (∀ w ∈ (xAtoms own ic X names).filter tk_good, w ∈ tbg) ∧ (∀ w ∈ xAtoms own ic X names, tk_good w = true ∨ w = .laysStatic Bundle.tN "UNASSIGNED_STACK" Bundle.steD ∨ w = .laysStatic Bundle.tN "SUPPRESSED_SENTINEL" Bundle.listD) ∧ Cond.classLink own ix X ∈ tbg ∧ Cond.initialized X ∈ tbg ∧ Bundle.fit X = true ∧ ∀ n ∈ names, Bundle.fit n = true
theorem x_throw {own : String} {ix ic aS : Nat} {names : List String} (hx : p.tables.exec = Jvm.exec) (hb : c.code = cc) (hlk : meth.locks = false) (hml : c.maxLocals = ls.size) (hE : c.exceptionTable.isEmpty = true) (hown : s.vm.findClass own = some m.cls) (hk : tk s) (hoff : l.stackTraces = false) (K : xWords own ix ic X names)
    (hP : va_P D vwCl w H) (hS : va_S (wA wc) s.heap H locs) (hA : ∀ q, wA wc q → q ≠ aS) (hZ : xS aS s s.heap)
    (d0 : decode cc pc = .ok (.new ix, 3)) (d3 : decode cc (pc + 3) = .ok (.dup, 1)) (d4 : decode cc (pc + 4) = .ok (.invokespecial ic, 3)) (d7 : decode cc (pc + 7) = .ok (.athrow, 1))
    (h : w = w1) (hres : res = none) (hR : 1 ≤ R.cells ∧ 6 ≤ R.slots ∧ names.length + 3 < R.frames ∧ (rest.map fun v => v.category).sum + (13 * (names.length + 1) + 42) ≤ R.locals) :
    W p l e R s m args below meth c H locs 0 0 (xMQ below (xQ D wc res X w1) args s wc) (F0 m pc ls rest) := by
  subst h; subst hres
  obtain ⟨K1, K0, K2, K3, K4, K5⟩ := K
  have wd : ∀ w ∈ xAtoms own ic X names, w.before args s = true := fun w hw => by
    rcases K0 w hw with h | rfl | rfl
    · exact hk w (K1 w (List.mem_filter.mpr ⟨hw, h⟩)) args
    · exact hZ.1.word
    · exact hZ.2.1.word
  refine W.newc hx hb hown (hk _ K2 args) (wd (.instantiable X 6) (by simp [xAtoms])) (hk _ K3 args) rfl d0 (by omega) (by omega) (fun cC kC h1 h2 h3 h4 => ?_)
  refine lv_dup (va := .ref H.size) hx hb d3 rfl ?_
  intro T hT X0
  subst hb
  have hH : s.heap.size ≤ H.size := hS.1
  have hZH : xS aS s T.heap := by
    rw [hT]
    refine hZ.kept ?_
    rw [Array.getElem?_push, if_neg (by have := hZ.2.2; omega)]
    exact hS.2.1 aS hZ.2.2 (fun q => hA aS q rfl)
  obtain ⟨vm', ce, c1, c2, X1, st⟩ := x_ctor (a := H.size) (cX := cC) (kX := kC) (rest := rest) X0 hx (by rw [X0.admits.platform]; exact hoff) hown K4 K5 wd hZH h1 h2 (by rw [hT]; simp [freshCell]) hH (by have := hZ.2.2; omega)
    (g := F0 m (pc + 4) ls (.ref H.size :: .ref H.size :: rest)) rfl hml.symm rfl d4 hR.2.2.1 (by rw [List.map_cons, List.sum_cons]; show 2 * 0 + (1 + (rest.map fun v => v.category).sum) + _ ≤ _; omega)
  obtain ⟨hwalk, hrun, hended, hWU, hsame⟩ := X1.athrowLeaves hx (g := { F0 m (pc + 4) ls (.ref H.size :: .ref H.size :: rest) with stack := .ref H.size :: rest, pc := pc + 4 + 3 }) rfl rfl rfl (fun x hx => by rw [Array.isEmpty_iff] at hE; rw [hE] at hx; cases hx) (a := H.size) (rest := rest) rfl d7 hlk
  have hU : ((T.setVm vm').setCell H.size ce).heap = (H.push { cls := cC, slots := kC.instanceTypes.map defaultValue, vm := .none }).setIfInBounds H.size ce := by rw [← hT]; rfl
  have hat : ((T.setVm vm').setCell H.size ce).heap[H.size]? = some ce := by rw [hU]; simp
  have hlow : ∀ q : Nat, q < H.size → ((T.setVm vm').setCell H.size ce).heap[q]? = H[q]? := fun q hq => by
    rw [hU, Array.getElem?_setIfInBounds, if_neg (by omega), Array.getElem?_push, if_neg (by omega)]
  refine ⟨_, st _ hwalk, .threw H.size, hrun, hended, ⟨?_, ?_, H.size, rfl, hH, ce, hat, c2, ?_⟩, locs, 1, 6, hWU, ?_, ⟨rfl, rfl⟩, hS.2.2⟩
  · exact hP.kept (fun k q hq => hlow q.1 (hP k q hq).lt)
  · refine ⟨?_, fun q h1 h2 => ?_⟩
    · show s.heap.size ≤ ((T.setVm vm').setCell H.size ce).heap.size
      rw [hU]; simp; omega
    · exact (hlow q (by omega)).trans (hS.2.1 q h1 h2)
  · show ((T.setVm vm').setCell H.size ce).vm.findClass X = some ce.cls
    rw [c1, X1.warmed.alike.findClass]
    exact h1
  · exact hsame
end XR
end
section
/-! Calls: of pure methods, of methods that write, of methods that may throw. -/
def kBase (y : MethodName) (np : Nat) : Prop := y.cls ≠ "java/lang/invoke/MethodHandle" ∧ y.cls ≠ "java/lang/invoke/VarHandle" ∧ (parseMethodDescriptor y.desc).map (fun d => d.parameters.length) = some np
/-- the words of a static call -/
def kS (own : String) (ix : Nat) (y : MethodName) (cc : ByteArray) (n : Nat) (r : Option FieldType) (np : Nat) : Prop :=
  Cond.methodLink own ix y ∈ tbg ∧ Cond.static y ∈ tbg ∧ Cond.initialized y.cls ∈ tbg ∧ Cond.code y cc n r ∈ tbg ∧ kBase y np
/-- the words of a call on an object -/
def kV (own : String) (ix : Nat) (y : MethodName) (cc : ByteArray) (n : Nat) (r : Option FieldType) (np : Nat) : Prop :=
  Cond.methodLink own ix y ∈ tbg ∧ Cond.instanceMethod y ∈ tbg ∧ Cond.selects y.cls y y ∈ tbg ∧ Cond.initialized y.cls ∈ tbg ∧ Cond.code y cc n r ∈ tbg ∧ kBase y np
/-- the same, of a private method of a nest mate -/
def kN (own host : String) (ix : Nat) (y : MethodName) (cc : ByteArray) (n : Nat) (r : Option FieldType) (np : Nat) : Prop :=
  Cond.methodLinkNest own ix y host ∈ tbg ∧ Cond.instanceMethod y ∈ tbg ∧ Cond.selects y.cls y y ∈ tbg ∧ Cond.initialized y.cls ∈ tbg ∧ Cond.code y cc n r ∈ tbg ∧ kBase y np
theorem k_len {y : MethodName} {np : Nat} (h : kBase y np) : ∀ sig, parseMethodDescriptor y.desc = some sig → np = sig.parameters.length := by
  intro sig hs
  have h2 := h.2.2
  rw [hs] at h2
  exact (Option.some.inj h2).symm
theorem k_code {s U : State} {y : MethodName} {cc : ByteArray} {n : Nat} {r : Option FieldType} (hk : tk s) (h : Cond.code y cc n r ∈ tbg) (hW : s.WarmedH U.vm) (a : Array Value) : (Cond.code y cc n r).before a U = true := tk_warm hW hk _ h a
theorem k_ws {s : State} {y : MethodName} {cc : ByteArray} {n : Nat} {r : Option FieldType} (hk : tk s) (h : Cond.code y cc n r ∈ tbg) : ∀ w ∈ [Cond.code y cc n r], ∀ (a' : Array Value) (U : State), s.WarmedH U.vm → w.before a' U = true := by
  intro w hw a' U hW
  rw [List.mem_singleton] at hw
  subst hw
  exact k_code hk h hW a'
abbrev kR (R rm : Room) (maxL cells slots : Nat) : Prop := rm.frames + 1 ≤ R.frames ∧ 8 + (maxL + 11) + rm.locals ≤ R.locals ∧ cells + rm.cells ≤ R.cells ∧ slots + rm.slots ≤ R.slots
section KC
variable {p : Program} {l : Launch} {e : Env} {R : Room} {s : State} {m : MethodId} {args : Array Value} {below : List Frame} {meth : Method} {c : Code} {H : Heap} {locs : List Loc} {cells slots : Nat} {Q : State → Prop}
variable {cc bytes : ByteArray} {pc maxL np ix : Nat} {ls : Array Slot} {rest st0 av As : List Value} {own host : String} {y : MethodName} {ret : Option FieldType} {rm : Room} {D : va_G} {tys : List (ClassId × FieldType)} {wc : va_W} {v : Value}
theorem c_pre (hk : tk s) (hK : va_K D vwCl tys s) (hP : va_P D vwCl wc H) (hD : va_D (fun _ => True) wc) : ∀ U : State, U.heap = H → s.WarmedH U.vm → cPre D tys av wc av.toArray U :=
  fun U hU hW => ⟨rfl, tk_warm hW hk, va_K.moved hW.alike hK, by rw [hU]; exact hP, hD⟩
theorem p_callS (hx : p.tables.exec = Jvm.exec) (hb : c.code = cc) (hml : c.maxLocals = ls.size) (hown : s.vm.findClass own = some m.cls) (hk : tk s) (hK : va_K D vwCl tys s) (K : kS own ix y bytes maxL ret np) (hM : pMet l y bytes maxL ret rm D tys av wc v)
    (hP : va_P D vwCl wc H) (hD : va_D (fun _ => True) wc) (hst : st0 = av.reverse ++ rest) (hav : av.length = np) (hrm : rm.cells = 0 ∧ rm.slots = 0) (hR : kR R rm maxL cells slots) (hcat : (rest.map fun v => v.category).sum ≤ 8) (hdg : decode cc pc = .ok (.invokestatic ix, 3))
    (kk : W p l e R s m args below meth c H locs cells slots Q (F0 m (pc + 3) ls (v :: rest))) : W p l e R s m args below meth c H locs cells slots Q (F0 m pc ls st0) := by
  obtain ⟨k1, k2, k3, k4, k5⟩ := K
  obtain ⟨r1, r2, r3, r4⟩ := hR
  rw [hrm.1] at r3
  rw [hrm.2] at r4
  exact p_run (a := av.toArray) (va_runS (Ts := []) ⟨hx, hb, hml, hown, fun w h => by cases h⟩ hM ⟨⟨hrm.1, hrm.2, r1, r2, k_ws hk k4, List.mem_cons_self, hk _ k4 args, hk _ k3 args, ⟨k5.1, k5.2.1⟩, k_len k5, hk _ k1 args⟩, hk _ k2 args⟩ ⟨cPre_blind, c_pre hk hK hP hD⟩ rfl hav rfl hst (lv_room hcat) hdg ⟨r3, r4⟩) kk
theorem p_callV {b : Addr} {ci q0 : Nat} {fs : List Value} {T : u_T} {N : Nat} (hx : p.tables.exec = Jvm.exec) (hb : c.code = cc) (hml : c.maxLocals = ls.size) (hown : s.vm.findClass own = some m.cls) (hk : tk s) (hK : va_K D vwCl tys s) (K : kV own ix y bytes maxL ret np) (hM : pMet l y bytes maxL ret rm D tys (.ref b :: As) wc v)
    (hP : va_P D vwCl wc H) (hD : va_D (fun _ => True) wc) (he : wc[q0]? = some (b, .inr (ci, fs))) (hc : vwCl[ci]? = some (y.cls, T, N)) (hst : st0 = As.reverse ++ .ref b :: rest) (hav : As.length = np) (hrm : rm.cells = 0 ∧ rm.slots = 0) (hR : kR R rm maxL cells slots) (hcat : (rest.map fun v => v.category).sum ≤ 8) (hdg : decode cc pc = .ok (.invokevirtual ix, 3))
    (kk : W p l e R s m args below meth c H locs cells slots Q (F0 m (pc + 3) ls (v :: rest))) : W p l e R s m args below meth c H locs cells slots Q (F0 m pc ls st0) := by
  obtain ⟨k1, k2, k2', k3, k4, k5⟩ := K
  obtain ⟨r1, r2, r3, r4⟩ := hR
  rw [hrm.1] at r3
  rw [hrm.2] at r4
  exact p_run (a := (Value.ref b :: As).toArray) (va_runV (C := y.cls) (Ts := []) ⟨hx, hb, hml, hown, fun w h => by cases h⟩ hM ⟨⟨hrm.1, hrm.2, r1, r2, k_ws hk k4, List.mem_cons_self, hk _ k4 args, hk _ k3 args, ⟨k5.1, k5.2.1⟩, k_len k5, hk _ k1 args⟩, hk _ k2 args, hk _ k2' args⟩ ⟨cPre_blind, va_recv hK hP hc he, c_pre hk hK hP hD⟩ rfl hav rfl hst (lv_room hcat) hdg ⟨r3, r4⟩) kk
theorem p_callN {b : Addr} {ci q0 : Nat} {fs : List Value} {T : u_T} {N : Nat} (hx : p.tables.exec = Jvm.exec) (hb : c.code = cc) (hml : c.maxLocals = ls.size) (hown : s.vm.findClass own = some m.cls) (hk : tk s) (hK : va_K D vwCl tys s) (K : kN own host ix y bytes maxL ret np) (hM : pMet l y bytes maxL ret rm D tys (.ref b :: As) wc v)
    (hP : va_P D vwCl wc H) (hD : va_D (fun _ => True) wc) (he : wc[q0]? = some (b, .inr (ci, fs))) (hc : vwCl[ci]? = some (y.cls, T, N)) (hst : st0 = As.reverse ++ .ref b :: rest) (hav : As.length = np) (hrm : rm.cells = 0 ∧ rm.slots = 0) (hR : kR R rm maxL cells slots) (hcat : (rest.map fun v => v.category).sum ≤ 8) (hdg : decode cc pc = .ok (.invokevirtual ix, 3))
    (kk : W p l e R s m args below meth c H locs cells slots Q (F0 m (pc + 3) ls (v :: rest))) : W p l e R s m args below meth c H locs cells slots Q (F0 m pc ls st0) := by
  obtain ⟨k1, k2, k2', k3, k4, k5⟩ := K
  obtain ⟨r1, r2, r3, r4⟩ := hR
  rw [hrm.1] at r3
  rw [hrm.2] at r4
  exact p_run (a := (Value.ref b :: As).toArray) (va_runVN (host := host) (C := y.cls) (Ts := []) ⟨hx, hb, hml, hown, fun w h => by cases h⟩ hM ⟨⟨⟨hrm.1, hrm.2, r1, r2, k_ws hk k4, List.mem_cons_self⟩, hk _ k4 args, hk _ k3 args, ⟨k5.1, k5.2.1⟩, k_len k5, hk _ k1 args⟩, hk _ k2 args, hk _ k2' args⟩ ⟨cPre_blind, va_recv hK hP hc he, c_pre hk hK hP hD⟩ rfl hav rfl hst (lv_room hcat) hdg ⟨r3, r4⟩) kk
variable {A : Nat → Prop} {H0 : Heap} {W0 w1 : va_W} {ans : Option Value}
theorem w_subP {is : List Nat} (hP : va_P D vwCl W0 H) (hC : is.map (fun i => W0[i]?) = wc.map some) : va_P D vwCl wc H := hP.sub is (wcut hC)
theorem w_subD {is : List Nat} (hD : va_D A W0) (hC : is.map (fun i => W0[i]?) = wc.map some) (hn : va_nd is = true) : va_D (fun _ => True) wc := (hD.sub is hn hC).weaken (fun _ _ _ _ => trivial)
theorem m_callV {b : Addr} {ci q0 : Nat} {fs : List Value} {T : u_T} {N : Nat} (hx : p.tables.exec = Jvm.exec) (hb : c.code = cc) (hml : c.maxLocals = ls.size) (hown : s.vm.findClass own = some m.cls) (hk : tk s) (hK : va_K D vwCl tys s) (K : kV own ix y bytes maxL ret np) (hM : mMet l y bytes maxL ret rm D tys (.ref b :: As) wc ans w1)
    (hP : va_P D vwCl W0 H) (hD : va_D A W0) (hS : va_S A H0 H locs) (is : List Nat) (hC : is.map (fun i => W0[i]?) = wc.map some) (hn : va_nd is = true) (hf : w1.map Prod.fst = wc.map Prod.fst) (he : wc[q0]? = some (b, .inr (ci, fs))) (hc : vwCl[ci]? = some (y.cls, T, N)) (hst : st0 = As.reverse ++ .ref b :: rest) (hav : As.length = np) (hrm : rm.cells = 0 ∧ rm.slots = 0) (hR : kR R rm maxL cells slots) (hcat : (rest.map fun v => v.category).sum ≤ 8) (hdg : decode cc pc = .ok (.invokevirtual ix, 3))
    (kk : ∀ (H1 : Heap) (locs1 : List Loc), va_P D vwCl (wset W0 is w1) H1 → va_D A (wset W0 is w1) → va_S A H0 H1 locs1 → W p l e R s m args below meth c H1 locs1 cells slots Q (F0 m (pc + 3) ls (ans.toList ++ rest))) : W p l e R s m args below meth c H locs cells slots Q (F0 m pc ls st0) := by
  obtain ⟨k1, k2, k2', k3, k4, k5⟩ := K
  obtain ⟨r1, r2, r3, r4⟩ := hR
  rw [hrm.1] at r3
  rw [hrm.2] at r4
  have hPc := w_subP hP hC
  have hDc := w_subD hD hC hn
  exact m_run (a := (Value.ref b :: As).toArray) (va_runV (C := y.cls) (Ts := []) ⟨hx, hb, hml, hown, fun w h => by cases h⟩ hM ⟨⟨hrm.1, hrm.2, r1, r2, k_ws hk k4, List.mem_cons_self, hk _ k4 args, hk _ k3 args, ⟨k5.1, k5.2.1⟩, k_len k5, hk _ k1 args⟩, hk _ k2 args, hk _ k2' args⟩ ⟨cPre_blind, va_recv hK hPc hc he, c_pre hk hK hPc hDc⟩ rfl hav rfl hst (lv_room hcat) hdg ⟨r3, r4⟩) hP hD hS is hC hf kk
theorem m_callN {b : Addr} {ci q0 : Nat} {fs : List Value} {T : u_T} {N : Nat} (hx : p.tables.exec = Jvm.exec) (hb : c.code = cc) (hml : c.maxLocals = ls.size) (hown : s.vm.findClass own = some m.cls) (hk : tk s) (hK : va_K D vwCl tys s) (K : kN own host ix y bytes maxL ret np) (hM : mMet l y bytes maxL ret rm D tys (.ref b :: As) wc ans w1)
    (hP : va_P D vwCl W0 H) (hD : va_D A W0) (hS : va_S A H0 H locs) (is : List Nat) (hC : is.map (fun i => W0[i]?) = wc.map some) (hn : va_nd is = true) (hf : w1.map Prod.fst = wc.map Prod.fst) (he : wc[q0]? = some (b, .inr (ci, fs))) (hc : vwCl[ci]? = some (y.cls, T, N)) (hst : st0 = As.reverse ++ .ref b :: rest) (hav : As.length = np) (hrm : rm.cells = 0 ∧ rm.slots = 0) (hR : kR R rm maxL cells slots) (hcat : (rest.map fun v => v.category).sum ≤ 8) (hdg : decode cc pc = .ok (.invokevirtual ix, 3))
    (kk : ∀ (H1 : Heap) (locs1 : List Loc), va_P D vwCl (wset W0 is w1) H1 → va_D A (wset W0 is w1) → va_S A H0 H1 locs1 → W p l e R s m args below meth c H1 locs1 cells slots Q (F0 m (pc + 3) ls (ans.toList ++ rest))) : W p l e R s m args below meth c H locs cells slots Q (F0 m pc ls st0) := by
  obtain ⟨k1, k2, k2', k3, k4, k5⟩ := K
  obtain ⟨r1, r2, r3, r4⟩ := hR
  rw [hrm.1] at r3
  rw [hrm.2] at r4
  have hPc := w_subP hP hC
  have hDc := w_subD hD hC hn
  exact m_run (a := (Value.ref b :: As).toArray) (va_runVN (host := host) (C := y.cls) (Ts := []) ⟨hx, hb, hml, hown, fun w h => by cases h⟩ hM ⟨⟨⟨hrm.1, hrm.2, r1, r2, k_ws hk k4, List.mem_cons_self⟩, hk _ k4 args, hk _ k3 args, ⟨k5.1, k5.2.1⟩, k_len k5, hk _ k1 args⟩, hk _ k2 args, hk _ k2' args⟩ ⟨cPre_blind, va_recv hK hPc hc he, c_pre hk hK hPc hDc⟩ rfl hav rfl hst (lv_room hcat) hdg ⟨r3, r4⟩) hP hD hS is hC hf kk
end KC
/-- calls that may throw: what comes of them -/
def xOut (g : JFrame) (rest : List Value) (T' : State) : Outcome → State
  | .returned v => T'.setTop { g with pc := g.pc + 3, stack := v.toList ++ rest }
  | .threw x => (T'.setTop { g with stack := rest }).pushFrame (.throwing x)
theorem x_heap (T : State) (g : JFrame) : (T.setTop g).heap = T.heap := by simp [State.setTop, State.modifyTopJava]
theorem x_vm (T : State) (g : JFrame) : (T.setTop g).vm = T.vm := by simp [State.setTop, State.modifyTopJava]
theorem xPre_blind {D : va_G} {tys : List (ClassId × FieldType)} {aS : Nat} {av : List Value} {wc : va_W} : FrameBlind (xPre D tys aS av wc) := by
  intro a U g mk h
  obtain ⟨h0, h1, h2, h3, h4, h5⟩ := h
  exact ⟨h0, tk_warm (s := U) (U := U.calling g mk a) (State.WarmedH.refl U) h1, va_K.moved (u := U) (U := U.calling g mk a) (Vm.Alike.refl U.vm) h2, h3, h4, xS.moved (u := U) (U := U.calling g mk a) (Vm.Alike.refl U.vm) h5⟩
section XC
variable {p : Program} {l : Launch} {e : Env} {R : Room} {s : State} {m : MethodId} {args : Array Value} {below : List Frame} {meth : Method} {c : Code} {H : Heap} {locs : List Loc} {cells slots : Nat} {Q : State → Prop}
variable {cc bytes : ByteArray} {pc maxL np ix aS : Nat} {ls : Array Slot} {rest st0 av As : List Value} {own host : String} {y : MethodName} {ret : Option FieldType} {rm : Room} {D : va_G} {tys : List (ClassId × FieldType)} {wc wcC w1 w1C W0 : va_W} {v : Value} {res : Option (Option Value)} {X : String}
theorem xInto {T : State} (X0 : Stand p l e R s m args below meth c T locs cells slots) (hM : xMet l y bytes maxL ret rm D tys aS av wc res X w1) {g : JFrame} {ig : Instr} (hg : g.method = m) (hsize : g.locals.size = c.maxLocals) (hdg : decode c.code g.pc = .ok (ig, 3))
    {mk : MethodId} (hn : T.methodNamed? y = some mk) (hk : tk T) (hc : Cond.code y bytes maxL ret ∈ tbg) (hi : Cond.initialized y.cls ∈ tbg) (hcat : 2 * g.monitorRoom + (g.stack.map fun v => v.category).sum ≤ 8) (hR : kR R rm maxL cells slots) (hpre : xPre D tys aS av wc av.toArray T) :
    ∃ (o : Outcome) (t T' : State) (L : List Loc) (k n : Nat), Stand p l e R s m args below meth c T' (locs ++ L) (cells + k) (slots + n) ∧ xCnt o k n ∧ (∀ q ∈ L, wA wc q.base) ∧ T'.heap = t.heap ∧ T'.vm = t.vm ∧ xQ D wc res X w1 av.toArray (T.calling g mk av.toArray) o t ∧
      Steps p.tables e below (doInvoke e (T.setTop g) [] mk av.toArray).1 (xOut g g.stack T' o) := by
  obtain ⟨r1, r2, r3, r4⟩ := hR
  obtain ⟨methY, cY, hmY, hcY, -, hlY, -, -, -, -⟩ := Cond.code_spec hn (hk _ hc #[])
  obtain ⟨kY, hkY, -⟩ := className_of_methodNamed hn
  have hinitY : kY.init = .initialized := Cond.initialized_spec (findClass_of_methodNamed hn) hkY (hk _ hi #[])
  have h : At T g.method c below := by rw [hg]; exact X0.here
  have happ : (headSpec [Cond.code y bytes maxL ret] rm).appliesLoose y e.platform (T.calling g mk av.toArray) = true :=
    Spec.appliesLoose_calling (g := g) h hdg hn hkY hinitY (X0.room_calling (g := g) (R' := rm) hsize hmY hcY r1 (by rw [hlY]; omega) r3 r4) (atoms_intro (fun w hw => by rw [List.mem_singleton] at hw; subst hw; exact hk _ hc _))
  obtain ⟨mid, hmid⟩ := h.above
  have hfr : (T.setTop g).frames = (.java g :: mid) ++ below := by rw [State.frames_setTop' g h.top, hmid]; rfl
  obtain ⟨o, s₂, hsteps, -, hend, hq, L, k, n, hW, hs, hcnt, hL⟩ := Steps.callFree hM p X0.admits X0.cas X0.clock (acts := []) hfr happ (xPre_blind _ T g mk hpre) trivial
  rw [State.frames_setTop' g h.top, X0.tail] at hend
  cases o with
  | returned v =>
    obtain ⟨T', X', -, -, ht⟩ := X0.outOf hg hdg hend hW hs
    exact ⟨.returned v, s₂, T', L, k, n, X', hcnt, hL, by rw [ht, x_heap], by rw [ht, x_vm], hq, by rw [ht] at hsteps; exact hsteps⟩
  | threw x =>
    obtain ⟨T', X', -, -, ht⟩ := X0.outOfThrown hg hend hW hs
    exact ⟨.threw x, s₂, T', L, k, n, X', hcnt, hL, by rw [ht, Stand.throwing_heap], by rw [ht, Stand.throwing_vm], hq, by rw [ht] at hsteps; exact hsteps⟩
def xRun (p : Program) (l : Launch) (e : Env) (R : Room) (s : State) (m : MethodId) (args : Array Value) (below : List Frame) (meth : Method) (c : Code) (H : Heap) (locs : List Loc) (cells slots : Nat) (g : JFrame) (rest : List Value) (Qa : State → Outcome → State → Prop) (wc : va_W) : Prop :=
  ∀ T : State, T.heap = H → Stand p l e R s m args below meth c T locs cells slots → ∃ (o : Outcome) (st₀ t T' : State) (L : List Loc) (k n : Nat), st₀.heap = H ∧ Stand p l e R s m args below meth c T' (locs ++ L) (cells + k) (slots + n) ∧ xCnt o k n ∧ (∀ q ∈ L, wA wc q.base) ∧ T'.heap = t.heap ∧ T'.vm = t.vm ∧ Qa st₀ o t ∧
    ∀ target, Steps p.tables e below (xOut g rest T' o) target → Steps p.tables e below (T.setTop g) target
theorem x_pre (hk : tk s) (hK : va_K D vwCl tys s) (hP : va_P D vwCl wc H) (hD : va_D (fun q => q ≠ aS) wc) (hZ : xS aS s H) : ∀ U : State, U.heap = H → s.WarmedH U.vm → xPre D tys aS av wc av.toArray U :=
  fun U hU hW => ⟨rfl, tk_warm hW hk, va_K.moved hW.alike hK, by rw [hU]; exact hP, hD, by rw [hU]; exact hZ.moved hW.alike⟩
theorem x_runS (hx : p.tables.exec = Jvm.exec) (hb : c.code = cc) (hml : c.maxLocals = ls.size) (hown : s.vm.findClass own = some m.cls) (hk : tk s) (hK : va_K D vwCl tys s) (K : kS own ix y bytes maxL ret np) (hM : xMet l y bytes maxL ret rm D tys aS av wc res X w1)
    (hP : va_P D vwCl wc H) (hD : va_D (fun q => q ≠ aS) wc) (hZ : xS aS s H) (hst : st0 = av.reverse ++ rest) (hav : av.length = np) (hR : kR R rm maxL cells slots) (hcat : (rest.map fun v => v.category).sum ≤ 8) (hdg : decode cc pc = .ok (.invokestatic ix, 3)) :
    xRun p l e R s m args below meth c H locs cells slots (F0 m pc ls st0) rest (xQ D wc res X w1 av.toArray) wc := by
  obtain ⟨k1, k2, k3, k4, k5⟩ := K
  intro T hT X0
  subst hb
  obtain ⟨mk, hnamed⟩ := Cond.code_named (hk _ k4 args)
  obtain ⟨methM, cM, hmethM, -, -, -, -, -, -, hsigM⟩ := Cond.code_spec hnamed (hk _ k4 args)
  have hstatic : methM.isStatic = true := Cond.static_spec hnamed hmethM (hk _ k2 args)
  obtain ⟨kP, hkP, -⟩ := className_of_methodNamed hnamed
  have hinitP : kP.init = .initialized := Cond.initialized_spec (findClass_of_methodNamed hnamed) hkP (hk _ k3 args)
  obtain ⟨vm₁, X₁, hstep₁⟩ := X0.invokestatic hx hown (hk _ k1 args) hnamed hmethM hstatic hkP hinitP ⟨k5.1, k5.2.1⟩ (g := F0 m pc ls st0) rfl (argsL := av) (rest := rest) (hav.trans (k_len k5 _ hsigM)) hst hdg
  obtain ⟨o, t, T', L, k, n, X', h1, h2, h3, h4, h5, h6⟩ := xInto X₁ hM (g := F0 m pc ls rest) rfl hml.symm hdg (X₁.named hnamed) (tk_warm X₁.warmed hk) k4 k3 (lv_room hcat) hR (x_pre hk hK hP hD hZ _ hT X₁.warmed)
  exact ⟨o, _, t, T', L, k, n, hT, X', h1, h2, h3, h4, h5, fun target h => hstep₁ _ fun acts => by rw [doInvoke_state]; exact h6.trans h⟩
theorem x_runV {b : Addr} {ci q0 : Nat} {fs : List Value} {TT : u_T} {N : Nat} (hx : p.tables.exec = Jvm.exec) (hb : c.code = cc) (hml : c.maxLocals = ls.size) (hown : s.vm.findClass own = some m.cls) (hk : tk s) (hK : va_K D vwCl tys s) (K : kV own ix y bytes maxL ret np) (hM : xMet l y bytes maxL ret rm D tys aS (.ref b :: As) wc res X w1)
    (hP : va_P D vwCl wc H) (hD : va_D (fun q => q ≠ aS) wc) (hZ : xS aS s H) (he : wc[q0]? = some (b, .inr (ci, fs))) (hc : vwCl[ci]? = some (y.cls, TT, N)) (hst : st0 = As.reverse ++ .ref b :: rest) (hav : As.length = np) (hR : kR R rm maxL cells slots) (hcat : (rest.map fun v => v.category).sum ≤ 8) (hdg : decode cc pc = .ok (.invokevirtual ix, 3)) :
    xRun p l e R s m args below meth c H locs cells slots (F0 m pc ls st0) rest (xQ D wc res X w1 (Value.ref b :: As).toArray) wc := by
  obtain ⟨k1, k2, k2', k3, k4, k5⟩ := K
  intro T hT X0
  subst hb
  obtain ⟨mk, methM, hnamed, hmethM, hstM, habM⟩ := Cond.instanceMethod_spec (hk _ k2 args)
  obtain ⟨methM', cM, hmethM', -, -, -, -, -, -, hsigM⟩ := Cond.code_spec hnamed (hk _ k4 args)
  cases hmethM.symm.trans hmethM'
  obtain ⟨c2, r2, m2, q1, q2, q3, q4, kP, hkP, hkPi⟩ := Cond.selects_spec (hk _ k2' args)
  obtain ⟨cellB, hcB, hoB, hclB⟩ := va_recv hK hP hc he
  cases hclB.symm.trans q1
  cases (State.methodFound?_of_named hnamed ⟨k5.1, k5.2.1⟩).symm.trans q2
  cases hnamed.symm.trans q3
  have hselP : selectMethod e.platform s.vm cellB.cls mk = .method mk := by rw [Launch.admits_selectMethod X0.admits]; exact q4
  obtain ⟨vm₁, X₁, hstep₁⟩ := X0.invokevirtual hx hown (hk _ k1 args) hnamed hmethM hstM hkP hkPi ⟨k5.1, k5.2.1⟩ (a := b) (cell := cellB) (by rw [hT]; exact hcB)
    (fun z h => by rw [h] at hoB; cases hoB) hselP hmethM habM hkP hkPi (g := F0 m pc ls st0) rfl (argsL := As) (rest := rest) (hav.trans (k_len k5 _ hsigM)) hst hdg
  obtain ⟨o, t, T', L, k, n, X', h1, h2, h3, h4, h5, h6⟩ := xInto X₁ hM (g := F0 m pc ls rest) rfl hml.symm hdg (X₁.named hnamed) (tk_warm X₁.warmed hk) k4 k3 (lv_room hcat) hR (x_pre hk hK hP hD hZ _ hT X₁.warmed)
  exact ⟨o, _, t, T', L, k, n, hT, X', h1, h2, h3, h4, h5, fun target h => hstep₁ _ fun acts => by rw [doInvoke_state]; exact h6.trans h⟩
variable {A : Nat → Prop} {H0 : Heap} {a : Array Value} {ans : Option Value}
/-- it came back -/
theorem x_ok (hr : xRun p l e R s m args below meth c H locs cells slots (F0 m pc ls st0) rest (xQ D wcC (some ans) X w1C a) wcC) (hP : va_P D vwCl W0 H) (hD : va_D A W0) (hS : va_S A H0 H locs)
    (is : List Nat) (hC : is.map (fun i => W0[i]?) = wcC.map some) (hf : w1C.map Prod.fst = wcC.map Prod.fst)
    (kk : ∀ (H1 : Heap) (locs1 : List Loc), va_P D vwCl (wset W0 is w1C) H1 → va_D A (wset W0 is w1C) → va_S A H0 H1 locs1 → W p l e R s m args below meth c H1 locs1 cells slots Q (F0 m (pc + 3) ls (ans.toList ++ rest))) : W p l e R s m args below meth c H locs cells slots Q (F0 m pc ls st0) := by
  intro T hT X0
  obtain ⟨o, st₀, t, T', L, k, n, h0, X', hcnt, hL, e1, e2, ⟨hp, ⟨hz, hk⟩, ho⟩, st⟩ := hr T hT X0
  cases ho
  obtain ⟨rfl, rfl⟩ := hcnt
  rw [h0] at hz hk
  have hA : ∀ q, wA wcC q → A q := by
    rintro q ⟨k, ee, h⟩
    obtain ⟨i, -, g⟩ := wat hC k (q, ee) h
    exact hD.2 i (q, ee) g
  obtain ⟨j1, j2⟩ := wjoin hP hD hC hf hk hp
  obtain ⟨t2, a1, b1⟩ := kk T'.heap (locs ++ L) (by rw [e1]; exact j1) j2
    ⟨Nat.le_trans hS.1 (by rw [e1]; exact hz), fun q h1 h2 => by rw [e1, hk q (Nat.lt_of_lt_of_le h1 hS.1) (fun z => h2 (hA q z))]; exact hS.2.1 q h1 h2, fun q hq => by
      rcases List.mem_append.mp hq with h | h
      · exact hS.2.2 q h
      · exact hA _ (hL q h)⟩ T' rfl X'
  exact ⟨t2, st t2 a1, b1⟩
/-- it threw, and nothing here catches it -/
theorem x_thr (hr : xRun p l e R s m args below meth c H locs 0 0 (F0 m pc ls st0) rest (xQ D wcC none X w1C a) wcC) (hE : c.exceptionTable.isEmpty = true) (hlk : meth.locks = false) (hP : va_P D vwCl W0 H) (hD : va_D (wA wc) W0) (hS : va_S (wA wc) s.heap H locs)
    (is : List Nat) (hC : is.map (fun i => W0[i]?) = wcC.map some) (hf : w1C.map Prod.fst = wcC.map Prod.fst) (h : wset W0 is w1C = w1) (hres : res = none) :
    W p l e R s m args below meth c H locs 0 0 (xMQ below (xQ D wc res X w1) args s wc) (F0 m pc ls st0) := by
  subst h; subst hres
  intro T hT X0
  obtain ⟨o, st₀, t, T', L, k, n, h0, X', hcnt, hL, e1, e2, ⟨hp, ⟨hz, hk⟩, ⟨x, rfl, hx, ce, c1, c2, c3⟩⟩, st⟩ := hr T hT X0
  obtain ⟨rfl, rfl⟩ := hcnt
  rw [h0] at hz hk hx
  have hA : ∀ q, wA wcC q → wA wc q := by
    rintro q ⟨k, ee, h⟩
    obtain ⟨i, -, g⟩ := wat hC k (q, ee) h
    exact hD.2 i (q, ee) g
  obtain ⟨j1, j2⟩ := wjoin hP hD hC hf hk hp
  obtain ⟨hwalk, hrun, hended, hWU, hsame⟩ := X'.leaveThrown x (g := F0 m pc ls rest) rfl rfl rfl (fun z hz => by rw [Array.isEmpty_iff] at hE; rw [hE] at hz; cases hz) hlk
  refine ⟨_, st _ hwalk, .threw x, hrun, hended, ⟨?_, ⟨?_, fun q h1 h2 => ?_⟩, x, rfl, Nat.le_trans hS.1 hx, ce, ?_, c2, ?_⟩, locs ++ L, 1, 6, hWU, hsame, ⟨rfl, rfl⟩, fun q hq => ?_⟩
  · show va_P D vwCl (wset W0 is w1C) T'.heap
    rw [e1]; exact j1
  · show s.heap.size ≤ T'.heap.size
    rw [e1]; exact Nat.le_trans hS.1 hz
  · show T'.heap[q]? = s.heap[q]?
    rw [e1, hk q (Nat.lt_of_lt_of_le h1 hS.1) (fun z => h2 (hA q z))]
    exact hS.2.1 q h1 h2
  · show T'.heap[x]? = some ce
    rw [e1]; exact c1
  · show T'.vm.findClass X = some ce.cls
    rw [e2]; exact c3
  · rcases List.mem_append.mp hq with h | h
    · exact hS.2.2 q h
    · exact hA _ (hL q h)
end XC
end
