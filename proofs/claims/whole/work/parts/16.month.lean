/-! The month of a day, and the parts of a time: mathematics alone. -/
def cMoF (y d : Int) : Nat → Int → Int
  | 0, k => k
  | f + 1, k => if cFD y (k + 1) ≤ d then cMoF y d f (k + 1) else k
def cMo (y d : Int) : Int := cMoF y d 11 1
theorem cMoF_step {y d k : Int} (h2 : k < 12) : cMoF y d (12 - k).toNat k = if cFD y (k + 1) ≤ d then cMoF y d (12 - (k + 1)).toNat (k + 1) else k := by
  rw [show (12 - k).toNat = (12 - (k + 1)).toNat + 1 from by omega]
  rfl
theorem cMoF_end (y d : Int) : cMoF y d (12 - 12 : Int).toNat 12 = 12 := rfl
theorem cMoF_b (y d : Int) : ∀ (f : Nat) (k : Int), k ≤ cMoF y d f k ∧ cMoF y d f k ≤ k + f
  | 0, k => by simp [cMoF]
  | f + 1, k => by
    have := cMoF_b y d f (k + 1)
    unfold cMoF
    split <;> omega
theorem cMo_b (y d : Int) : 1 ≤ cMo y d ∧ cMo y d ≤ 12 := by
  have := cMoF_b y d 11 1
  unfold cMo; omega
theorem cMoF_at {y d : Int} : ∀ (f : Nat) (k : Int), 1 ≤ k → cFD y k ≤ d → d < cFD y (k + f + 1) → cFD y (cMoF y d f k) ≤ d ∧ d < cFD y (cMoF y d f k + 1)
  | 0, k, h1, h2, h3 => by
    unfold cMoF
    exact ⟨h2, by rw [show k + ((0 : Nat) : Int) + 1 = k + 1 from by omega] at h3; exact h3⟩
  | f + 1, k, h1, h2, h3 => by
    unfold cMoF
    split
    · rename_i q
      exact cMoF_at f (k + 1) (by omega) q (by rw [show k + 1 + (f : Int) + 1 = k + ((f + 1 : Nat) : Int) + 1 from by omega]; exact h3)
    · rename_i q
      exact ⟨h2, by omega⟩
theorem cFD_13 (y : Int) : cFD y 13 = cYear (y + 1) := cFirst_12 y
theorem cMo_at {y d : Int} (h1 : cYear y ≤ d) (h2 : d < cYear (y + 1)) : cFD y (cMo y d) ≤ d ∧ d < cFD y (cMo y d + 1) :=
  cMoF_at 11 1 (by omega) (by rw [cFD_1]; exact h1) (by rw [show (1 : Int) + ((11 : Nat) : Int) + 1 = 13 from by omega, cFD_13]; exact h2)
/-- a part of a local time -/
def cPart (t w : Int) : Int :=
  if w = 0 then t % 60000 / 1000 else if w = 1 then t % 3600000 / 60000 else if w = 2 then t % 86400000 / 3600000
  else if w = 3 then t / 86400000 - cFD (cY (t / 86400000)) (cMo (cY (t / 86400000)) (t / 86400000)) + 1
  else if w = 4 then cMo (cY (t / 86400000)) (t / 86400000) else if w = 5 then cY (t / 86400000) else cWd (t / 86400000) + 1
theorem cFD_b {y mo : Int} (h1 : 1900 ≤ y) (h2 : y ≤ 2399) (h3 : 1 ≤ mo) (h4 : mo ≤ 12) : -30000 ≤ cFD y mo ∧ cFD y mo ≤ 160000 := by
  have a := cFD_lo y h3
  have b := cFD_hi y h3 h4
  have c := cLen_lo y mo
  have d := cYear_b (y := y) (by omega) (by omega)
  have e := cYear_b (y := y + 1) (by omega) (by omega)
  omega
theorem cWd_b (d : Int) : 0 ≤ cWd d ∧ cWd d ≤ 6 := by unfold cWd; omega
