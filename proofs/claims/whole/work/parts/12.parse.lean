/-! The reading of a zone's text: mathematics alone. f: the bytes as they lie in the array, n: how many count. A state: the place, and whether the text is broken there. -/
def tv (x : Int32) : Int := (x &&& 255).toInt
theorem tv_i (x : Int32) : x &&& 255 = iI (tv x) := (iI_of _).symm
theorem tv_b (x : Int32) : 0 ≤ tv x ∧ tv x ≤ 255 := by
  obtain ⟨j, hj, e⟩ := pk_andE x (m := 255) 8 (by decide)
  unfold tv
  rw [e, nI_toInt (by omega)]
  omega
def zPk (n : Nat) (f : Nat → Int32) (i : Nat) : Int := if i < n then tv (f i) else -1
theorem zPk_b (n : Nat) (f : Nat → Int32) (i : Nat) : -1 ≤ zPk n f i ∧ zPk n f i ≤ 255 := by
  have := tv_b (f i)
  unfold zPk
  split <;> omega
def zDig (x : Int) : Prop := 48 ≤ x ∧ x ≤ 57
def zByte (n : Nat) (f : Nat → Int32) (c : Int) (z : Nat × Bool) : Nat × Bool := if z.2 then z else if zPk n f z.1 = c then (z.1 + 1, false) else (z.1, true)
/-- over the blanks: u bytes are left -/
def zSkip (f : Nat → Int32) : Nat → Nat → Nat
  | 0, i => i
  | u + 1, i => if tv (f i) = 32 then zSkip f u (i + 1) else i
def zBl (n : Nat) (f : Nat → Int32) (z : Nat × Bool) : Nat × Bool := if z.2 then z else if zPk n f z.1 = 32 then (zSkip f (n - (z.1 + 1)) (z.1 + 1), false) else (z.1, true)
/-- over the digits -/
def zRun (f : Nat → Int32) : Nat → Nat → Int → Int × Nat
  | 0, i, v => (v, i)
  | u + 1, i, v => if 48 ≤ tv (f i) ∧ tv (f i) ≤ 57 then zRun f u (i + 1) (min (v * 10 + tv (f i) - 48) 100000) else (v, i)
/-- the number at a place: -1 where there is no digit -/
def zDg (n : Nat) (f : Nat → Int32) (i : Nat) : Int × Nat :=
  if 48 ≤ zPk n f i ∧ zPk n f i ≤ 57 then (if zPk n f i = 48 then (0, i + 1) else zRun f (n - (i + 1)) (i + 1) (zPk n f i - 48)) else (-1, i)
def zNum (n : Nat) (f : Nat → Int32) (lo hi : Int) (z : Nat × Bool) : Int × (Nat × Bool) :=
  if z.2 then (0, z) else if (zDg n f z.1).1 < lo ∨ hi < (zDg n f z.1).1 then ((zDg n f z.1).1, (z.1, true)) else ((zDg n f z.1).1, ((zDg n f z.1).2, false))
/-- what is read of a rule, and the state behind it -/
def zRu (n : Nat) (f : Nat → Int32) (z : Nat × Bool) : (Int × Int × Int × Int) × (Nat × Bool) :=
  let a1 := zByte n f 77 z
  let b1 := zNum n f 1 12 a1
  let a2 := zByte n f 46 b1.2
  let b2 := zNum n f 1 5 a2
  let a3 := zByte n f 46 b2.2
  let b3 := zNum n f 0 6 a3
  let a4 := zByte n f 47 b3.2
  let b4 := zNum n f 0 1439 a4
  ((b1.1, b2.1, b3.1, b4.1), b4.2)
theorem zByte_brk (n : Nat) (f : Nat → Int32) (c : Int) {z : Nat × Bool} (h : z.2 = true) : zByte n f c z = z := by simp [zByte, h]
theorem zBl_brk (n : Nat) (f : Nat → Int32) {z : Nat × Bool} (h : z.2 = true) : zBl n f z = z := by simp [zBl, h]
theorem zNum_brk (n : Nat) (f : Nat → Int32) (lo hi : Int) {z : Nat × Bool} (h : z.2 = true) : zNum n f lo hi z = (0, z) := by simp [zNum, h]
theorem zRu_brk (n : Nat) (f : Nat → Int32) {z : Nat × Bool} (h : z.2 = true) : zRu n f z = ((0, 0, 0, 0), z) := by
  simp [zRu, zByte_brk n f _ h, zNum_brk n f _ _ h]
theorem zSkip_b (f : Nat → Int32) : ∀ u i, i ≤ zSkip f u i ∧ zSkip f u i ≤ i + u
  | 0, i => by simp [zSkip]
  | u + 1, i => by
    have := zSkip_b f u (i + 1)
    unfold zSkip
    split <;> omega
theorem zRun_b (f : Nat → Int32) : ∀ u i v, 0 ≤ v → v ≤ 100000 → i ≤ (zRun f u i v).2 ∧ (zRun f u i v).2 ≤ i + u ∧ 0 ≤ (zRun f u i v).1 ∧ (zRun f u i v).1 ≤ 100000
  | 0, i, v, h1, h2 => by simp [zRun]; omega
  | u + 1, i, v, h1, h2 => by
    have b := tv_b (f i)
    unfold zRun
    split
    · have := zRun_b f u (i + 1) (min (v * 10 + tv (f i) - 48) 100000) (by omega) (by omega)
      omega
    · simp; omega
theorem zDg_b {n : Nat} {f : Nat → Int32} {i : Nat} (h : i ≤ n) : i ≤ (zDg n f i).2 ∧ (zDg n f i).2 ≤ n ∧ -1 ≤ (zDg n f i).1 ∧ (zDg n f i).1 ≤ 100000 := by
  unfold zDg
  split
  · rename_i q
    have hi : i < n := by
      unfold zPk at q
      split at q <;> omega
    split
    · simp; omega
    · have := zRun_b f (n - (i + 1)) (i + 1) (zPk n f i - 48) (by omega) (by omega)
      omega
  · simp; omega
theorem zByte_b {n : Nat} {f : Nat → Int32} {c : Int} {z : Nat × Bool} (hc : 0 ≤ c) (h : z.1 ≤ n) : z.1 ≤ (zByte n f c z).1 ∧ (zByte n f c z).1 ≤ n := by
  unfold zByte
  split
  · exact ⟨Nat.le_refl _, h⟩
  · split
    · rename_i q
      have hi : z.1 < n := by
        unfold zPk at q
        split at q <;> omega
      exact ⟨Nat.le_succ _, hi⟩
    · exact ⟨Nat.le_refl _, h⟩
theorem zBl_b {n : Nat} {f : Nat → Int32} {z : Nat × Bool} (h : z.1 ≤ n) : z.1 ≤ (zBl n f z).1 ∧ (zBl n f z).1 ≤ n := by
  unfold zBl
  split
  · exact ⟨Nat.le_refl _, h⟩
  · split
    · rename_i q
      have hi : z.1 < n := by
        unfold zPk at q
        split at q <;> omega
      have := zSkip_b f (n - (z.1 + 1)) (z.1 + 1)
      show z.1 ≤ zSkip f (n - (z.1 + 1)) (z.1 + 1) ∧ zSkip f (n - (z.1 + 1)) (z.1 + 1) ≤ n
      omega
    · exact ⟨Nat.le_refl _, h⟩
theorem zNum_b {n : Nat} {f : Nat → Int32} {lo hi : Int} {z : Nat × Bool} (h : z.1 ≤ n) : z.1 ≤ (zNum n f lo hi z).2.1 ∧ (zNum n f lo hi z).2.1 ≤ n ∧ -1 ≤ (zNum n f lo hi z).1 ∧ (zNum n f lo hi z).1 ≤ 100000 := by
  have := zDg_b (f := f) h
  unfold zNum
  split
  · simp; omega
  · split
    · exact ⟨Nat.le_refl _, h, this.2.2⟩
    · exact ⟨this.1, this.2.1, this.2.2⟩
theorem zNum_ok {n : Nat} {f : Nat → Int32} {lo hi : Int} {z : Nat × Bool} (h : (zNum n f lo hi z).2.2 = false) : z.2 = false ∧ lo ≤ (zNum n f lo hi z).1 ∧ (zNum n f lo hi z).1 ≤ hi := by
  unfold zNum at *
  split at h
  · rename_i q; simp [q] at h
  · rename_i q
    split at h
    · simp at h
    · rename_i q2
      simp only [q, q2]
      refine ⟨by simpa using q, ?_⟩
      simp
      omega
theorem zByte_ok {n : Nat} {f : Nat → Int32} {c : Int} {z : Nat × Bool} (h : (zByte n f c z).2 = false) : z.2 = false := by
  cases hz : z.2 with
  | false => rfl
  | true => rw [zByte_brk n f c hz, hz] at h; cases h
theorem zBl_ok {n : Nat} {f : Nat → Int32} {z : Nat × Bool} (h : (zBl n f z).2 = false) : z.2 = false := by
  cases hz : z.2 with
  | false => rfl
  | true => rw [zBl_brk n f hz, hz] at h; cases h
theorem zRu_ok {n : Nat} {f : Nat → Int32} {z : Nat × Bool} (h : (zRu n f z).2.2 = false) : z.2 = false ∧ rOk (zRu n f z).1.1 (zRu n f z).1.2.1 (zRu n f z).1.2.2.1 (zRu n f z).1.2.2.2 := by
  unfold zRu at *
  simp only at *
  obtain ⟨h1, h2, h3⟩ := zNum_ok h
  obtain ⟨h4, h5, h6⟩ := zNum_ok (zByte_ok h1)
  obtain ⟨h7, h8, h9⟩ := zNum_ok (zByte_ok h4)
  obtain ⟨g1, g2, g3⟩ := zNum_ok (zByte_ok h7)
  exact ⟨zByte_ok g1, g2, g3, h8, h9, h5, h6, h2, h3⟩
/-- a whole text: the state behind the offset; its value; the state behind all; the save; the rules -/
def zS2 (n : Nat) (f : Nat → Int32) : Int × (Nat × Bool) := zNum n f 0 840 (zByte n f (if zPk n f 0 = 45 then 45 else 43) (0, false))
def zOff (n : Nat) (f : Nat → Int32) : Int := if zPk n f 0 = 45 then -(zS2 n f).1 else (zS2 n f).1
def zS4 (n : Nat) (f : Nat → Int32) : Int × (Nat × Bool) := zNum n f 1 120 (zBl n f (zS2 n f).2)
def zR1 (n : Nat) (f : Nat → Int32) : (Int × Int × Int × Int) × (Nat × Bool) := zRu n f (zBl n f (zS4 n f).2)
def zR2 (n : Nat) (f : Nat → Int32) : (Int × Int × Int × Int) × (Nat × Bool) := zRu n f (zBl n f (zR1 n f).2)
def zMore (n : Nat) (f : Nat → Int32) : Bool := decide ((zS2 n f).2.1 < n)
def zSave (n : Nat) (f : Nat → Int32) : Int := if zMore n f then (zS4 n f).1 else 0
def zEnd (n : Nat) (f : Nat → Int32) : Nat × Bool := if zMore n f then (zR2 n f).2 else (zS2 n f).2
/-- is the text broken, and where -/
def zBad (n : Nat) (f : Nat → Int32) : Bool := decide ((zEnd n f).1 < n) || (zEnd n f).2
def zPlace (n : Nat) (f : Nat → Int32) : Int := if zBad n f then ((zEnd n f).1 : Int) else -1
