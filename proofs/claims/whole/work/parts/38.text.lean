/-! The way through a zone's text; the events' moments: mathematics alone. -/
section QT
variable {n : Nat} {f : Nat → Int32} {i : Nat}
def qT6 (n : Nat) (f : Nat → Int32) (z : Nat × Bool) : Nat × Bool := (zRu n f z).2
def qT5 (n : Nat) (f : Nat → Int32) (z : Nat × Bool) : Nat × Bool := qT6 n f (zBl n f z)
def qT4 (n : Nat) (f : Nat → Int32) (z : Nat × Bool) : Nat × Bool := qT5 n f (zRu n f z).2
def qT3 (n : Nat) (f : Nat → Int32) (z : Nat × Bool) : Nat × Bool := qT4 n f (zBl n f z)
def qT2 (n : Nat) (f : Nat → Int32) (z : Nat × Bool) : Nat × Bool := qT3 n f (zNum n f 1 120 z).2
def qT1 (n : Nat) (f : Nat → Int32) (z : Nat × Bool) : Nat × Bool := qT2 n f (zBl n f z)
def qT0 (n : Nat) (f : Nat → Int32) (z : Nat × Bool) : Nat × Bool := if (zNum n f 0 840 z).2.1 < n then qT1 n f (zNum n f 0 840 z).2 else (zNum n f 0 840 z).2
theorem qT6_b : qT6 n f (i, true) = (i, true) := by unfold qT6; rw [zRu_brk n f rfl]
theorem qT5_b : qT5 n f (i, true) = (i, true) := by unfold qT5; rw [zBl_brk n f rfl, qT6_b]
theorem qT4_b : qT4 n f (i, true) = (i, true) := by unfold qT4; rw [zRu_brk n f rfl, qT5_b]
theorem qT3_b : qT3 n f (i, true) = (i, true) := by unfold qT3; rw [zBl_brk n f rfl, qT4_b]
theorem qT2_b : qT2 n f (i, true) = (i, true) := by unfold qT2; rw [zNum_brk n f _ _ rfl, qT3_b]
theorem qT1_b : qT1 n f (i, true) = (i, true) := by unfold qT1; rw [zBl_brk n f rfl, qT2_b]
theorem zEnd_q : zEnd n f = qT0 n f (zByte n f (if zPk n f 0 = 45 then 45 else 43) (0, false)) := by
  unfold zEnd qT0 zMore
  by_cases h : (zS2 n f).2.1 < n
  · rw [decide_eq_true h, if_pos rfl]; exact (if_pos h).symm
  · rw [decide_eq_false h, if_neg (by decide)]; exact (if_neg h).symm
theorem qT0_n (h : (zDg n f i).1 < 0 ∨ 840 < (zDg n f i).1) : qT0 n f (i, false) = (i, true) := by
  unfold qT0; rw [zNum_bad h]; simp only; rw [qT1_b]; split <;> rfl
theorem qT0_0 (h : ¬ ((zDg n f i).1 < 0 ∨ 840 < (zDg n f i).1)) (h2 : ¬ (zDg n f i).2 < n) : qT0 n f (i, false) = ((zDg n f i).2, false) := by
  unfold qT0; rw [zNum_good h]; simp only; rw [if_neg h2]
theorem qT0_1 (h : ¬ ((zDg n f i).1 < 0 ∨ 840 < (zDg n f i).1)) (h2 : (zDg n f i).2 < n) : qT0 n f (i, false) = qT1 n f ((zDg n f i).2, false) := by
  unfold qT0; rw [zNum_good h]; simp only; rw [if_pos h2]
theorem zEnd_n (h1 : zPk n f 0 ≠ 43) (h2 : zPk n f 0 ≠ 45) : zEnd n f = (0, true) := by
  rw [zEnd_q, if_neg h2, zByte_ne h1]; unfold qT0; rw [zNum_brk n f _ _ rfl]; simp only; rw [qT1_b]; split <;> rfl
theorem zEnd_43 (h : zPk n f 0 = 43) : zEnd n f = qT0 n f (1, false) := by rw [zEnd_q, if_neg (by omega), zByte_eq h]
theorem zEnd_45 (h : zPk n f 0 = 45) : zEnd n f = qT0 n f (1, false) := by rw [zEnd_q, if_pos h, zByte_eq h]
theorem zS2_43 (h : zPk n f 0 = 43) (h2 : ¬ ((zDg n f 1).1 < 0 ∨ 840 < (zDg n f 1).1)) : zS2 n f = ((zDg n f 1).1, ((zDg n f 1).2, false)) := by
  unfold zS2; rw [if_neg (by omega), zByte_eq h, zNum_good h2]
theorem zS2_45 (h : zPk n f 0 = 45) (h2 : ¬ ((zDg n f 1).1 < 0 ∨ 840 < (zDg n f 1).1)) : zS2 n f = ((zDg n f 1).1, ((zDg n f 1).2, false)) := by
  unfold zS2; rw [if_pos h, zByte_eq h, zNum_good h2]
theorem zBl_y (h : zPk n f i = 32) : zBl n f (i, false) = ((zBl n f (i, false)).1, false) := by simp [zBl, h]
theorem zBl_n (h : ¬ zPk n f i = 32) : zBl n f (i, false) = (i, true) := by simp [zBl, h]
theorem qT1_y (h : zPk n f i = 32) : qT1 n f (i, false) = qT2 n f ((zBl n f (i, false)).1, false) := by unfold qT1; rw [← zBl_y h]
theorem qT1_n (h : ¬ zPk n f i = 32) : qT1 n f (i, false) = (i, true) := by unfold qT1; rw [zBl_n h, qT2_b]
theorem qT3_y (h : zPk n f i = 32) : qT3 n f (i, false) = qT4 n f ((zBl n f (i, false)).1, false) := by unfold qT3; rw [← zBl_y h]
theorem qT3_n (h : ¬ zPk n f i = 32) : qT3 n f (i, false) = (i, true) := by unfold qT3; rw [zBl_n h, qT4_b]
theorem qT5_y (h : zPk n f i = 32) : qT5 n f (i, false) = qT6 n f ((zBl n f (i, false)).1, false) := by unfold qT5; rw [← zBl_y h]
theorem qT5_n (h : ¬ zPk n f i = 32) : qT5 n f (i, false) = (i, true) := by unfold qT5; rw [zBl_n h, qT6_b]
theorem qT2_y (h : ¬ ((zDg n f i).1 < 1 ∨ 120 < (zDg n f i).1)) : qT2 n f (i, false) = qT3 n f ((zDg n f i).2, false) := by unfold qT2; rw [zNum_good h]
theorem qT2_n (h : (zDg n f i).1 < 1 ∨ 120 < (zDg n f i).1) : qT2 n f (i, false) = (i, true) := by unfold qT2; rw [zNum_bad h, qT3_b]
theorem qT4_y (h : (zRu n f (i, false)).2.2 = false) : qT4 n f (i, false) = qT5 n f ((zRu n f (i, false)).2.1, false) := by unfold qT4; rw [← zp_eta h]
theorem zp_eta1 {z : Nat × Bool} (h : z.2 = true) : z = (z.1, true) := by rw [← h]
theorem qT4_n (h : (zRu n f (i, false)).2.2 = true) : qT4 n f (i, false) = ((zRu n f (i, false)).2.1, true) := by unfold qT4; rw [zp_eta1 h, qT5_b]
theorem qT6_y (h : (zRu n f (i, false)).2.2 = false) : qT6 n f (i, false) = ((zRu n f (i, false)).2.1, false) := by unfold qT6; rw [← zp_eta h]
theorem qT6_n (h : (zRu n f (i, false)).2.2 = true) : qT6 n f (i, false) = ((zRu n f (i, false)).2.1, true) := by unfold qT6; rw [← zp_eta1 h]
theorem zS4_is {v : Int} {j : Nat} (h : zS2 n f = (v, (j, false))) (a : zPk n f j = 32) (b : ¬ ((zDg n f (zBl n f (j, false)).1).1 < 1 ∨ 120 < (zDg n f (zBl n f (j, false)).1).1)) : zS4 n f = ((zDg n f (zBl n f (j, false)).1).1, ((zDg n f (zBl n f (j, false)).1).2, false)) := by
  unfold zS4; rw [h]; simp only; rw [zBl_y a, zNum_good b]
theorem zR1_is {v : Int} {j : Nat} (h : zS4 n f = (v, (j, false))) (a : zPk n f j = 32) : zR1 n f = zRu n f ((zBl n f (j, false)).1, false) := by
  unfold zR1; rw [h]; simp only; rw [← zBl_y a]
theorem zR2_is (h : (zR1 n f).2.2 = false) (a : zPk n f (zR1 n f).2.1 = 32) : zR2 n f = zRu n f ((zBl n f ((zR1 n f).2.1, false)).1, false) := by
  unfold zR2; rw [← zBl_y a, ← zp_eta h]
theorem zBad_t (h : zEnd n f = (i, true)) : zBad n f = true := by unfold zBad; rw [h]; simp
theorem zBad_lt (h : zEnd n f = (i, false)) (h2 : i < n) : zBad n f = true := by unfold zBad; rw [h]; simp [h2]
theorem zBad_f (h : zEnd n f = (i, false)) (h2 : ¬ i < n) : zBad n f = false := by unfold zBad; rw [h]; simp; omega
end QT
def bV (r : RU) (sh y : Int) : Int := uMom r y - sh * 60000
theorem bV_bd {r : RU} (h : uOk r) {sh : Int} (h1 : -2000 ≤ sh) (h2 : sh ≤ 2000) : ∀ y, 1970 ≤ y → y ≤ 2299 → -1000000000000000 ≤ bV r sh y ∧ bV r sh y ≤ 1000000000000000 := by
  intro y h3 h4
  have := uMom_bd h h3 h4
  unfold bV; omega
def ruPut (F : Nat → Int32) (b : Nat) (r : RU) : Nat → Int32 := upd (upd (upd (upd F b (iI r.1)) (b + 1) (iI r.2.1)) (b + 2) (iI r.2.2.1)) (b + 3) (iI r.2.2.2)
theorem ruPut_8 {F : Nat → Int32} {r q : RU} : ruPut (ruPut F 0 r) 4 q 0 = iI r.1 ∧ ruPut (ruPut F 0 r) 4 q 1 = iI r.2.1 ∧ ruPut (ruPut F 0 r) 4 q 2 = iI r.2.2.1 ∧ ruPut (ruPut F 0 r) 4 q 3 = iI r.2.2.2 ∧ ruPut (ruPut F 0 r) 4 q 4 = iI q.1 ∧ ruPut (ruPut F 0 r) 4 q 5 = iI q.2.1 ∧ ruPut (ruPut F 0 r) 4 q 6 = iI q.2.2.1 ∧ ruPut (ruPut F 0 r) 4 q 7 = iI q.2.2.2 := by
  refine ⟨?_, ?_, ?_, ?_, ?_, ?_, ?_, ?_⟩ <;> simp [ruPut, upd]
abbrev evZE (off sv : Int) (b e : RU) (F : Nat → Int) (G : Nat → Bool) (k : Nat) : (Nat → Int) × (Nat → Bool) := evRun (bV b off) (bV e (off + sv)) F G k
def yN (k : Nat) : Int := 1970 + k
theorem yN_is (k : Nat) : yN k = 1970 + (k : Int) := rfl
theorem zSave_is {n : Nat} {f : Nat → Int32} {v : Int} {j : Nat} (h : zS2 n f = (v, (j, false))) (h2 : j < n) : zSave n f = (zS4 n f).1 := by
  unfold zSave zMore
  rw [h]
  exact if_pos (decide_eq_true h2)
