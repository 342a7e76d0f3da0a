/-! The reference's finds, and what its feed writes: mathematics alone. -/
abbrev rfA (off sv t : Int) : Int := rA off sv t
abbrev rfB (off t : Int) : Int := rB off t
def rIx (p q : Bool) : Nat := if p && q then 1 else 0
theorem rIx_is {p q : Bool} (h : p = true ∨ q = true) : bI p + bI q - 1 = (rIx p q : Int) := by
  cases p <;> cases q <;> first | rfl | (rcases h with h | h <;> cases h)
theorem rIx_b (p q : Bool) : rIx p q < 2 := by cases p <;> cases q <;> decide
theorem rFnd_u0 {p q : Bool} {a b : Int} {F : Nat → Int64} (h : p = true ∨ q = true) : rFnd p q a b F 0 = lL (rUni p q a b false) := by
  cases p <;> cases q <;> simp [rFnd, rUni, vp_updL] at h ⊢
theorem rFnd_u1 {p q : Bool} {a b : Int} {F : Nat → Int64} (h : p = true ∨ q = true) : rFnd p q a b F (rIx p q) = lL (rUni p q a b true) := by
  cases p <;> cases q <;> simp [rFnd, rUni, vp_updL, rIx] at h ⊢
def wsel (a b c d e : Int32) (k : Nat) : Int32 := if k < 4 then a else if k < 8 then b else if k < 12 then c else if k < 16 then d else e
def apn (f : Nat → Int32) (n : Nat) (a b c d e : Int32) : Nat → Nat → Int32
  | 0 => f
  | k + 1 => upd (apn f n a b c d e k) (n + k) (bs (wsel a b c d e k) (24 - 8 * ((k : Int) % 4)))
theorem apn_s {f : Nat → Int32} {n k : Nat} {a b c d e w : Int32} (h : wsel a b c d e k = w) : upd (apn f n a b c d e k) (n + k) (bs w (24 - (8 * ((k : Int) % 4)))) = apn f n a b c d e (k + 1) := by
  subst h; rfl
theorem apn_20 {f : Nat → Int32} {n : Nat} {a b c d e : Int32} : apn f n a b c d e 20 = ap20 f n a b c d e := rfl
section RR
variable {off sv t : Int} {cnt : Nat} {E : Nat → Int} {G : Nat → Bool}
theorem rfA_is : rfA off sv t = t - 60000 * (off + sv) := rfl
theorem rfB_is : rfB off t = t - 60000 * off := rfl
theorem rP1_t (h : rfA off sv t + 60000 * rMin off sv (evK E (rfA off sv t) cnt) G = t) : rP1 off sv cnt E G t = true := decide_eq_true h
theorem rP1_f (h : rfA off sv t + 60000 * rMin off sv (evK E (rfA off sv t) cnt) G ≠ t) : rP1 off sv cnt E G t = false := decide_eq_false h
theorem rP2_t (h0 : rfB off t ≠ rfA off sv t) (h : rfB off t + 60000 * rMin off sv (evK E (rfB off t) cnt) G = t) : rP2 off sv cnt E G t = true := by
  unfold rP2; rw [decide_eq_true h0, decide_eq_true h]; rfl
theorem rP2_f (h : rfB off t = rfA off sv t ∨ rfB off t + 60000 * rMin off sv (evK E (rfB off t) cnt) G ≠ t) : rP2 off sv cnt E G t = false := by
  unfold rP2
  rcases h with h | h
  · rw [decide_eq_false (show ¬ rB off t ≠ rA off sv t from fun k => k h)]; rfl
  · rw [decide_eq_false h, Bool.and_false]
end RR
