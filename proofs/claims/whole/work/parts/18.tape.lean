/-! What the tape's readers need of the reading's mathematics. -/
theorem tv_j (x : Int32) : Value.int (x &&& iI 255) = .int (iI (tv x)) := by
  rw [show iI 255 = (255 : Int32) from by decide, tv_i]
theorem zPk_in {n : Nat} {f : Nat → Int32} {i : Nat} (h : i < n) : zPk n f i = tv (f i) := by unfold zPk; rw [if_pos h]
theorem zPk_out {n : Nat} {f : Nat → Int32} {i : Nat} (h : ¬ i < n) : zPk n f i = -1 := by unfold zPk; rw [if_neg h]
def zDigB (x : Int) : Bool := decide (48 ≤ x) && decide (x ≤ 57)
theorem zDigB_t {x : Int} (h : bI (zDigB x) ≠ 0) : 48 ≤ x ∧ x ≤ 57 := by
  have := bI_e1 h
  simpa [zDigB] using this
theorem zDigB_f {x : Int} (h : bI (zDigB x) = 0) : ¬ (48 ≤ x ∧ x ≤ 57) := by
  have := bI_e0 h
  simp [zDigB] at this
  omega
theorem zByte_eq {n : Nat} {f : Nat → Int32} {c : Int} {i : Nat} (h : zPk n f i = c) : zByte n f c (i, false) = (i + 1, false) := by simp [zByte, h]
theorem zByte_ne {n : Nat} {f : Nat → Int32} {c : Int} {i : Nat} (h : zPk n f i ≠ c) : zByte n f c (i, false) = (i, true) := by simp [zByte, h]
theorem zBl_by (n : Nat) (f : Nat → Int32) (z : Nat × Bool) : zBl n f z = if (zByte n f 32 z).2 then zByte n f 32 z else (zSkip f (n - (zByte n f 32 z).1) (zByte n f 32 z).1, false) := by
  obtain ⟨i, b⟩ := z
  cases b with
  | true => rw [zByte_brk n f 32 rfl, zBl_brk n f rfl]; rfl
  | false =>
    by_cases h : zPk n f i = 32
    · rw [zByte_eq h]; simp [zBl, h]
    · rw [zByte_ne h]; simp [zBl, h]
theorem zSkip_go {f : Nat → Int32} {n j : Nat} (h : j < n) (e : tv (f j) = 32) : zSkip f (n - j) j = zSkip f (n - (j + 1)) (j + 1) := by
  rw [show n - j = (n - (j + 1)) + 1 from by omega]; simp [zSkip, e]
theorem zSkip_at {f : Nat → Int32} {n j : Nat} (h : j < n) (e : tv (f j) ≠ 32) : zSkip f (n - j) j = j := by
  rw [show n - j = (n - (j + 1)) + 1 from by omega]; simp [zSkip, e]
theorem zSkip_end {f : Nat → Int32} {n j : Nat} (h : n ≤ j) : zSkip f (n - j) j = j := by
  rw [show n - j = 0 from by omega]; rfl
theorem zRun_go {f : Nat → Int32} {n j : Nat} {v : Int} (h : j < n) (e : 48 ≤ tv (f j) ∧ tv (f j) ≤ 57) : zRun f (n - j) j v = zRun f (n - (j + 1)) (j + 1) (min (v * 10 + tv (f j) - 48) 100000) := by
  rw [show n - j = (n - (j + 1)) + 1 from by omega]; simp [zRun, e]
theorem zRun_at {f : Nat → Int32} {n j : Nat} {v : Int} (h : j < n) (e : ¬ (48 ≤ tv (f j) ∧ tv (f j) ≤ 57)) : zRun f (n - j) j v = (v, j) := by
  rw [show n - j = (n - (j + 1)) + 1 from by omega]; simp only [zRun]; rw [if_neg e]
theorem zRun_end {f : Nat → Int32} {n j : Nat} {v : Int} (h : n ≤ j) : zRun f (n - j) j v = (v, j) := by
  rw [show n - j = 0 from by omega]; rfl
theorem zDg_no {n : Nat} {f : Nat → Int32} {i : Nat} (h : ¬ (48 ≤ zPk n f i ∧ zPk n f i ≤ 57)) : zDg n f i = (-1, i) := by unfold zDg; rw [if_neg h]
theorem zDg_0 {n : Nat} {f : Nat → Int32} {i : Nat} (h : zPk n f i = 48) : zDg n f i = (0, i + 1) := by unfold zDg; rw [if_pos (by omega), if_pos h]
theorem zDg_r {n : Nat} {f : Nat → Int32} {i : Nat} (h : 48 ≤ zPk n f i ∧ zPk n f i ≤ 57) (h0 : zPk n f i ≠ 48) : zDg n f i = zRun f (n - (i + 1)) (i + 1) (zPk n f i - 48) := by unfold zDg; rw [if_pos h, if_neg h0]
theorem zPk_lt {n : Nat} {f : Nat → Int32} {i : Nat} (h : 0 ≤ zPk n f i) : i < n := by
  unfold zPk at h
  split at h
  · assumption
  · omega
theorem zNum_bad {n : Nat} {f : Nat → Int32} {lo hi : Int} {i : Nat} (h : (zDg n f i).1 < lo ∨ hi < (zDg n f i).1) : zNum n f lo hi (i, false) = ((zDg n f i).1, (i, true)) := by
  unfold zNum; simp only []; rw [if_neg (by simp), if_pos h]
theorem zNum_good {n : Nat} {f : Nat → Int32} {lo hi : Int} {i : Nat} (h : ¬ ((zDg n f i).1 < lo ∨ hi < (zDg n f i).1)) : zNum n f lo hi (i, false) = ((zDg n f i).1, ((zDg n f i).2, false)) := by
  unfold zNum; simp only []; rw [if_neg (by simp), if_neg h]
/-- a byte out of an int -/
def bs (x : Int32) (k : Int) : Int32 := (x >>> (iI k &&& 31)).toInt8.toInt32
def ap4 (f : Nat → Int32) (n : Nat) (x : Int32) : Nat → Int32 := upd (upd (upd (upd f n (bs x 24)) (n + 1) (bs x 16)) (n + 2) (bs x 8)) (n + 3) (bs x 0)
