/-! The Gregorian calendar, a rule's moments, and what lies before and behind a time: mathematics alone. -/
def cLeap (y : Int) : Bool := y % 4 == 0 && (!(y % 100 == 0) || y % 400 == 0)
def cLen (y m : Int) : Int := if m = 2 then (if cLeap y then 29 else 28) else if m = 4 ∨ m = 6 ∨ m = 9 ∨ m = 11 then 30 else 31
def cYear (y : Int) : Int := 365 * (y - 1970) + ((y - 1) / 4 - (y - 1) / 100 + (y - 1) / 400 - 477)
def cFirst (y : Int) : Nat → Int
  | 0 => cYear y
  | k + 1 => cFirst y k + cLen y (k + 1)
/-- the first day of a month -/
def cFD (y m : Int) : Int := cFirst y (m - 1).toNat
theorem cLen_lo (y m : Int) : 28 ≤ cLen y m := by unfold cLen; (repeat' split) <;> omega
theorem cLen_hi (y m : Int) : cLen y m ≤ 31 := by unfold cLen; (repeat' split) <;> omega
theorem cFD_1 (y : Int) : cFD y 1 = cYear y := rfl
theorem cFD_succ (y : Int) {m : Int} (h : 1 ≤ m) : cFD y (m + 1) = cFD y m + cLen y m := by
  obtain ⟨k, rfl⟩ : ∃ k : Nat, m = k + 1 := ⟨(m - 1).toNat, by omega⟩
  unfold cFD
  rw [show ((k : Int) + 1 + 1 - 1).toNat = k + 1 from by omega, show ((k : Int) + 1 - 1).toNat = k from by omega]
  rfl
theorem cYear_succ (y : Int) : cYear (y + 1) = cYear y + 365 + (if cLeap y then 1 else 0) := by
  unfold cYear cLeap
  by_cases h4 : y % 4 = 0 <;> by_cases h1 : y % 100 = 0 <;> by_cases h400 : y % 400 = 0 <;> simp [h4, h1, h400] <;> omega
theorem cFirst_12 (y : Int) : cFirst y 12 = cYear (y + 1) := by
  rw [cYear_succ]
  simp only [cFirst, cLen]
  cases cLeap y <;> simp <;> omega
theorem cFirst_up (y : Int) {j k : Nat} (h : j ≤ k) : cFirst y j + 28 * (k - j : Nat) ≤ cFirst y k := by
  induction k with
  | zero => obtain rfl : j = 0 := by omega
            simp
  | succ k ih =>
    by_cases hj : j = k + 1
    · subst hj; simp
    · have h1 := ih (by omega)
      have h2 := cLen_lo y (k + 1)
      show cFirst y j + 28 * ((k + 1 - j : Nat) : Int) ≤ cFirst y k + cLen y (k + 1)
      omega
/-- a month lies in its year -/
theorem cFD_lo (y : Int) {m : Int} (h1 : 1 ≤ m) : cYear y ≤ cFD y m := by
  have := cFirst_up y (j := 0) (k := (m - 1).toNat) (by omega)
  unfold cFD
  simp only [cFirst] at this
  omega
theorem cFD_hi (y : Int) {m : Int} (h1 : 1 ≤ m) (h2 : m ≤ 12) : cFD y m + cLen y m ≤ cYear (y + 1) := by
  rw [← cFirst_12, ← cFD_succ y h1]
  unfold cFD
  have := cFirst_up y (j := (m + 1 - 1).toNat) (k := 12) (by omega)
  omega
theorem cYear_lo {y : Int} (h1 : 1969 ≤ y) (h2 : y ≤ 2400) : 365 * (y - 1970) ≤ cYear y := by unfold cYear; omega
theorem cYear_hi {y : Int} (h1 : 1900 ≤ y) (h2 : y ≤ 2310) : cYear y ≤ 365 * (y - 1970) + 90 := by unfold cYear; omega
theorem cYear_b {y : Int} (h1 : 1900 ≤ y) (h2 : y ≤ 2400) : -30000 ≤ cYear y ∧ cYear y ≤ 160000 := by unfold cYear; omega
/-- the year of a day -/
def cY (d : Int) : Int := if cYear (1970 + d / 365) > d then 1970 + d / 365 - 1 else 1970 + d / 365
theorem cY_lo {d : Int} (h1 : -365 ≤ d) (h2 : d ≤ 122000) : cYear (cY d) ≤ d := by
  unfold cY
  split
  · have := cYear_hi (y := 1970 + d / 365 - 1) (by omega) (by omega)
    omega
  · omega
theorem cY_hi {d : Int} (h1 : -365 ≤ d) (h2 : d ≤ 122000) : d < cYear (cY d + 1) := by
  unfold cY
  split
  · rw [show 1970 + d / 365 - 1 + 1 = 1970 + d / 365 from by omega]; omega
  · have := cYear_lo (y := 1970 + d / 365 + 1) (by omega) (by omega)
    omega
theorem cY_b {d : Int} (h1 : -365 ≤ d) (h2 : d ≤ 122000) : 1969 ≤ cY d ∧ cY d ≤ 2305 := by
  unfold cY
  split
  · rename_i h
    have := cYear_hi (y := 1970 + d / 365) (by omega) (by omega)
    refine ⟨?_, by omega⟩
    by_cases h3 : d / 365 = -1
    · rw [h3] at h
      have : cYear (1970 + -1) = -365 := by decide
      omega
    · omega
  · omega
theorem cYear_mono {a b : Int} (h : a < b) : cYear a + 365 ≤ cYear b := by
  obtain ⟨k, rfl⟩ : ∃ k : Nat, b = a + 1 + k := ⟨(b - a - 1).toNat, by omega⟩
  clear h
  induction k with
  | zero => have := cYear_succ a; split at this <;> simp <;> omega
  | succ k ih =>
    have := cYear_succ (a + 1 + (k : Int))
    rw [show a + 1 + ((k + 1 : Nat) : Int) = a + 1 + (k : Int) + 1 from by omega]
    split at this <;> omega
theorem cY_unique {d y : Int} (h1 : -365 ≤ d) (h2 : d ≤ 122000) (h3 : cYear y ≤ d) (h4 : d < cYear (y + 1)) : cY d = y := by
  have a := cY_lo h1 h2
  have b := cY_hi h1 h2
  by_cases q1 : cY d < y
  · have := cYear_mono (a := cY d + 1) (b := y)
    by_cases q2 : cY d + 1 = y
    · rw [q2] at b; omega
    · have := this (by omega); omega
  · by_cases q3 : y < cY d
    · have := cYear_mono (a := y + 1) (b := cY d)
      by_cases q2 : y + 1 = cY d
      · rw [q2] at h4; omega
      · have := this (by omega); omega
    · omega
/-- the weekday of a day, 0: Sunday -/
def cWd (d : Int) : Int := (d + 4) % 7
/-- a rule: month, week, weekday (0: Sunday), minute; its day in a year -/
def rK (mo wk wd y : Int) : Int := (wd - cWd (cFD y mo)) % 7 + 7 * (wk - 1)
def rDay (mo wk wd y : Int) : Int := cFD y mo + (if cLen y mo ≤ rK mo wk wd y then rK mo wk wd y - 7 else rK mo wk wd y)
def rMom (mo wk wd mi y : Int) : Int := rDay mo wk wd y * 86400000 + mi * 60000
def rOk (mo wk wd mi : Int) : Prop := 1 ≤ mo ∧ mo ≤ 12 ∧ 1 ≤ wk ∧ wk ≤ 5 ∧ 0 ≤ wd ∧ wd ≤ 6 ∧ 0 ≤ mi ∧ mi ≤ 1439
theorem rDay_lo {mo wk wd mi : Int} (h : rOk mo wk wd mi) (y : Int) : cYear y ≤ rDay mo wk wd y := by
  obtain ⟨h1, h2, h3, h4, h5, h6, h7, h8⟩ := h
  have a := cFD_lo y h1
  have b := cLen_lo y mo
  unfold rDay
  split <;> unfold rK at * <;> omega
theorem rDay_hi {mo wk wd mi : Int} (h : rOk mo wk wd mi) (y : Int) : rDay mo wk wd y < cYear (y + 1) := by
  obtain ⟨h1, h2, h3, h4, h5, h6, h7, h8⟩ := h
  have a := cFD_hi y h1 h2
  have b := cLen_lo y mo
  unfold rDay
  split <;> unfold rK at * <;> omega
theorem rMom_lo {mo wk wd mi : Int} (h : rOk mo wk wd mi) (y : Int) : cYear y * 86400000 ≤ rMom mo wk wd mi y := by
  have a := rDay_lo h y
  obtain ⟨h1, h2, h3, h4, h5, h6, h7, h8⟩ := h
  unfold rMom
  omega
theorem rMom_hi {mo wk wd mi : Int} (h : rOk mo wk wd mi) (y : Int) : rMom mo wk wd mi y < cYear (y + 1) * 86400000 := by
  have a := rDay_hi h y
  obtain ⟨h1, h2, h3, h4, h5, h6, h7, h8⟩ := h
  unfold rMom
  omega
theorem rMom_mono {mo wk wd mi : Int} (h : rOk mo wk wd mi) {a b : Int} (hab : a < b) : rMom mo wk wd mi a < rMom mo wk wd mi b := by
  have h1 := rMom_hi h a
  have h2 := rMom_lo h b
  by_cases q : a + 1 = b
  · rw [q] at h1; omega
  · have := cYear_mono (a := a + 1) (b := b) (by omega)
    omega
/-- the last of a rule's moments not behind t, by the clock that runs sh minutes ahead -/
def rLast (mo wk wd mi t sh : Int) : Int :=
  let ck := t + sh * 60000
  let y := min (cY (ck / 86400000)) 2299
  let z := if rMom mo wk wd mi y > ck then y - 1 else y
  if z < 1970 then -1000000000000000 else rMom mo wk wd mi z - sh * 60000
def rNext (mo wk wd mi t sh : Int) : Int :=
  let ck := t + sh * 60000
  let y := max (cY (ck / 86400000)) 1970
  let z := if rMom mo wk wd mi y ≤ ck then y + 1 else y
  if z > 2299 then 1000000000000000 else rMom mo wk wd mi z - sh * 60000
/-- which moment rLast is -/
theorem rLast_is {mo wk wd mi t sh : Int} (h : rOk mo wk wd mi) (h1 : -31536000000 ≤ t + sh * 60000) (h2 : t + sh * 60000 ≤ 10540000000000) :
    (rLast mo wk wd mi t sh = -1000000000000000 ∧ ∀ y, 1970 ≤ y → y ≤ 2299 → t < rMom mo wk wd mi y - sh * 60000) ∨
    (∃ z, 1970 ≤ z ∧ z ≤ 2299 ∧ rLast mo wk wd mi t sh = rMom mo wk wd mi z - sh * 60000 ∧ rMom mo wk wd mi z - sh * 60000 ≤ t ∧ ∀ y, 1970 ≤ y → y ≤ 2299 → rMom mo wk wd mi y - sh * 60000 ≤ t → y ≤ z) := by
  generalize hck : t + sh * 60000 = ck at h1 h2
  have hd1 : -365 ≤ ck / 86400000 := by omega
  have hd2 : ck / 86400000 ≤ 122000 := by omega
  have a := cY_lo hd1 hd2
  have b := cY_hi hd1 hd2
  have hb := cY_b hd1 hd2
  generalize hY : cY (ck / 86400000) = Y at a b hb
  have up : ∀ y, Y < y → ck < rMom mo wk wd mi y := by
    intro y hy
    have q := rMom_lo h y
    by_cases e : Y + 1 = y
    · rw [e] at b; omega
    · have := cYear_mono (a := Y + 1) (b := y) (by omega); omega
  have dn : ∀ y, y < Y → rMom mo wk wd mi y ≤ ck := by
    intro y hy
    have q := rMom_hi h y
    by_cases e : y + 1 = Y
    · rw [e] at q; omega
    · have := cYear_mono (a := y + 1) (b := Y) (by omega); omega
  unfold rLast
  simp only [hck, hY]
  by_cases c1 : Y ≤ 2299
  · rw [show min Y 2299 = Y from by omega]
    by_cases c2 : rMom mo wk wd mi Y > ck
    · rw [if_pos c2]
      by_cases c3 : Y - 1 < 1970
      · rw [if_pos c3]
        refine Or.inl ⟨rfl, fun y y1 y2 => ?_⟩
        by_cases e : y = Y
        · rw [e]; omega
        · have := up y (by omega); omega
      · rw [if_neg c3]
        refine Or.inr ⟨Y - 1, by omega, by omega, rfl, ?_, fun y y1 y2 y3 => ?_⟩
        · have := dn (Y - 1) (by omega); omega
        · by_cases e : Y ≤ y
          · exfalso
            by_cases e2 : y = Y
            · rw [e2] at y3; omega
            · have := up y (by omega); omega
          · omega
    · rw [if_neg c2]
      by_cases c3 : Y < 1970
      · rw [if_pos c3]
        refine Or.inl ⟨rfl, fun y y1 y2 => ?_⟩
        have := up y (by omega); omega
      · rw [if_neg c3]
        refine Or.inr ⟨Y, by omega, by omega, rfl, by omega, fun y y1 y2 y3 => ?_⟩
        by_cases e : Y < y
        · have := up y e; omega
        · omega
  · rw [show min Y 2299 = 2299 from by omega]
    have := dn 2299 (by omega)
    rw [if_neg (by omega), if_neg (by omega)]
    exact Or.inr ⟨2299, by omega, by omega, rfl, by omega, fun y _ y2 _ => y2⟩
theorem rNext_is {mo wk wd mi t sh : Int} (h : rOk mo wk wd mi) (h1 : -31536000000 ≤ t + sh * 60000) (h2 : t + sh * 60000 ≤ 10540000000000) :
    (rNext mo wk wd mi t sh = 1000000000000000 ∧ ∀ y, 1970 ≤ y → y ≤ 2299 → rMom mo wk wd mi y - sh * 60000 ≤ t) ∨
    (∃ z, 1970 ≤ z ∧ z ≤ 2299 ∧ rNext mo wk wd mi t sh = rMom mo wk wd mi z - sh * 60000 ∧ t < rMom mo wk wd mi z - sh * 60000 ∧ ∀ y, 1970 ≤ y → y ≤ 2299 → t < rMom mo wk wd mi y - sh * 60000 → z ≤ y) := by
  generalize hck : t + sh * 60000 = ck at h1 h2
  have hd1 : -365 ≤ ck / 86400000 := by omega
  have hd2 : ck / 86400000 ≤ 122000 := by omega
  have a := cY_lo hd1 hd2
  have b := cY_hi hd1 hd2
  have hb := cY_b hd1 hd2
  generalize hY : cY (ck / 86400000) = Y at a b hb
  have up : ∀ y, Y < y → ck < rMom mo wk wd mi y := by
    intro y hy
    have q := rMom_lo h y
    by_cases e : Y + 1 = y
    · rw [e] at b; omega
    · have := cYear_mono (a := Y + 1) (b := y) (by omega); omega
  have dn : ∀ y, y < Y → rMom mo wk wd mi y ≤ ck := by
    intro y hy
    have q := rMom_hi h y
    by_cases e : y + 1 = Y
    · rw [e] at q; omega
    · have := cYear_mono (a := y + 1) (b := Y) (by omega); omega
  unfold rNext
  simp only [hck, hY]
  by_cases c1 : 1970 ≤ Y
  · rw [show max Y 1970 = Y from by omega]
    by_cases c2 : rMom mo wk wd mi Y ≤ ck
    · rw [if_pos c2]
      by_cases c3 : Y + 1 > 2299
      · rw [if_pos c3]
        refine Or.inl ⟨rfl, fun y y1 y2 => ?_⟩
        by_cases e : y = Y
        · rw [e]; omega
        · have := dn y (by omega); omega
      · rw [if_neg c3]
        refine Or.inr ⟨Y + 1, by omega, by omega, rfl, ?_, fun y y1 y2 y3 => ?_⟩
        · have := up (Y + 1) (by omega); omega
        · by_cases e : y ≤ Y
          · exfalso
            by_cases e2 : y = Y
            · rw [e2] at y3; omega
            · have := dn y (by omega); omega
          · omega
    · rw [if_neg c2]
      by_cases c3 : Y > 2299
      · rw [if_pos c3]
        refine Or.inl ⟨rfl, fun y y1 y2 => ?_⟩
        have := dn y (by omega); omega
      · rw [if_neg c3]
        refine Or.inr ⟨Y, by omega, by omega, rfl, by omega, fun y y1 y2 y3 => ?_⟩
        by_cases e : y < Y
        · have := dn y e; omega
        · omega
  · rw [show max Y 1970 = 1970 from by omega]
    have := up 1970 (by omega)
    rw [if_neg (by omega), if_neg (by omega)]
    exact Or.inr ⟨1970, by omega, by omega, rfl, by omega, fun y y1 _ _ => y1⟩
