/-! Floor division out of truncated division. -/
theorem fl_u {a b : Int} (h : 0 < b) : a % b + b * (a / b) = a ∧ 0 ≤ a % b ∧ a % b < b := (Int.ediv_emod_unique h).mp ⟨rfl, rfl⟩
theorem fl_t {a b : Int} (ha : a < 0) : a.tdiv b = -((-a) / b) ∧ a.tmod b = -((-a) % b) := by
  constructor
  · rw [show a.tdiv b = (-(-a)).tdiv b from by rw [Int.neg_neg], Int.neg_tdiv, Int.tdiv_eq_ediv_of_nonneg (by omega)]
  · rw [show a.tmod b = (-(-a)).tmod b from by rw [Int.neg_neg], Int.neg_tmod, Int.tmod_eq_emod_of_nonneg (by omega)]
theorem fl_0 {a b : Int} (h : 0 < b) (hr : (-a) % b = 0) : a / b = -((-a) / b) ∧ a % b = 0 := by
  obtain ⟨u1, u2, u3⟩ := fl_u (a := -a) h
  exact (Int.ediv_emod_unique h).mpr ⟨by rw [Int.mul_neg]; omega, by omega, h⟩
theorem fl_1 {a b : Int} (h : 0 < b) (hr : (-a) % b ≠ 0) : a / b = -((-a) / b) - 1 ∧ a % b = b - (-a) % b := by
  obtain ⟨u1, u2, u3⟩ := fl_u (a := -a) h
  exact (Int.ediv_emod_unique h).mpr ⟨by rw [Int.mul_sub, Int.mul_neg, Int.mul_one]; omega, by omega, by omega⟩
theorem fl_p {a b : Int} (ha : 0 ≤ a) : a.tdiv b = a / b := Int.tdiv_eq_ediv_of_nonneg ha
theorem fl_pm {a b : Int} (ha : 0 ≤ a) : a.tmod b = a % b := Int.tmod_eq_emod_of_nonneg ha
theorem fl_e {a b : Int} (h : 0 < b) (ha : a < 0) (e : a.tdiv b * b = a) : a.tdiv b = a / b := by
  rw [(fl_t ha).1] at e ⊢
  obtain ⟨u1, u2, u3⟩ := fl_u (a := -a) h
  rw [Int.neg_mul, Int.mul_comm] at e
  exact (fl_0 h (by omega)).1.symm
theorem fl_n {a b : Int} (h : 0 < b) (ha : a < 0) (e : a.tdiv b * b ≠ a) : a.tdiv b - 1 = a / b := by
  rw [(fl_t ha).1] at e ⊢
  obtain ⟨u1, u2, u3⟩ := fl_u (a := -a) h
  rw [Int.neg_mul, Int.mul_comm] at e
  exact (fl_1 h (by omega)).1.symm
theorem fl_me {a b : Int} (h : 0 < b) (ha : a < 0) (e : a.tmod b = 0) : a.tmod b = a % b := by
  rw [(fl_t ha).2] at e ⊢
  rw [(fl_0 (a := a) h (by omega)).2]; omega
theorem fl_mn {a b : Int} (h : 0 < b) (ha : a < 0) (e : a.tmod b ≠ 0) : a.tmod b + b = a % b := by
  rw [(fl_t ha).2] at e ⊢
  rw [(fl_1 (a := a) h (by omega)).2]; omega
/-- how far the truncated ones reach -/
theorem fl_tb {a b : Int} (h : 0 < b) : -a.natAbs ≤ a.tdiv b ∧ a.tdiv b ≤ a.natAbs := by
  by_cases ha : a < 0
  · rw [(fl_t ha).1]
    have h1 := Int.ediv_le_self (b := b) (a := -a) (by omega)
    have h2 : 0 ≤ -a / b := Int.ediv_nonneg (by omega) (by omega)
    omega
  · rw [fl_p (by omega)]
    have h1 := Int.ediv_le_self (b := b) (a := a) (by omega)
    have h2 : 0 ≤ a / b := Int.ediv_nonneg (by omega) (by omega)
    omega
theorem fl_mb {a b : Int} (h : 0 < b) : -b < a.tmod b ∧ a.tmod b < b := by
  by_cases ha : a < 0
  · rw [(fl_t ha).2]
    obtain ⟨u1, u2, u3⟩ := fl_u (a := -a) h
    omega
  · rw [fl_pm (by omega)]
    obtain ⟨u1, u2, u3⟩ := fl_u (a := a) h
    omega
/-- the quotient times the divisor stays near -/
theorem fl_qb {a b : Int} (h : 0 < b) : -a.natAbs ≤ a.tdiv b * b ∧ a.tdiv b * b ≤ a.natAbs := by
  by_cases ha : a < 0
  · rw [(fl_t ha).1, Int.neg_mul, Int.mul_comm]
    obtain ⟨u1, u2, u3⟩ := fl_u (a := -a) h
    have h2 : 0 ≤ -a / b := Int.ediv_nonneg (by omega) (by omega)
    have := Int.mul_nonneg (show 0 ≤ b by omega) h2
    omega
  · rw [fl_p (by omega), Int.mul_comm]
    obtain ⟨u1, u2, u3⟩ := fl_u (a := a) h
    have h2 : 0 ≤ a / b := Int.ediv_nonneg (by omega) (by omega)
    have := Int.mul_nonneg (show 0 ≤ b by omega) h2
    omega
def bI (b : Bool) : Int := if b then 1 else 0
theorem bI_t : bI true = 1 := rfl
theorem bI_f : bI false = 0 := rfl
theorem bI_b (b : Bool) : 0 ≤ bI b ∧ bI b ≤ 1 := by cases b <;> decide
theorem bI_nar (b : Bool) : narrow .boolean (.int (iI (bI b))) = .int (iI (bI b)) := by cases b <;> rfl
