/-! What the reference's searches and answers are: mathematics alone. -/
def rMin (off sv : Int) (ev : Nat) (G : Nat → Bool) : Int := off + (if (decide (0 < ev) && G (ev - 1)) then sv else 0)
theorem rMin_bd {off sv : Int} {ev : Nat} {G : Nat → Bool} (h1 : -840 ≤ off) (h2 : off ≤ 840) (h3 : 0 ≤ sv) (h4 : sv ≤ 120) : -840 ≤ rMin off sv ev G ∧ rMin off sv ev G ≤ 960 := by
  unfold rMin; split <;> omega
def zOutB (z t : Int) : Bool := decide (z < 0 ∨ 7 < z ∨ t < 0 ∨ 10413791999999 < t)
/-- the halves of a search -/
theorem srch_lo {E : Nat → Int} {G : Nat → Bool} {cnt a md : Nat} {t : Int} (hs : evS cnt E G) (hm : md < cnt) (he : E md ≤ t) : ∀ k, k < md + 1 → E k ≤ t := by
  intro k hk
  by_cases e : k = md
  · rw [e]; exact he
  · rcases hs k md (by omega) hm with h | ⟨h, -⟩ <;> omega
theorem srch_hi {E : Nat → Int} {G : Nat → Bool} {cnt md : Nat} {t : Int} (hs : evS cnt E G) (he : t < E md) : ∀ k, md ≤ k → k < cnt → t < E k := by
  intro k hk hc
  by_cases e : md = k
  · rw [← e]; exact he
  · rcases hs md k (by omega) hc with h | ⟨h, -⟩ <;> omega
def rA (off sv t : Int) : Int := t - 60000 * (off + sv)
def rB (off t : Int) : Int := t - 60000 * off
def rP1 (off sv : Int) (cnt : Nat) (E : Nat → Int) (G : Nat → Bool) (t : Int) : Bool := decide (rA off sv t + 60000 * rMin off sv (evK E (rA off sv t) cnt) G = t)
def rP2 (off sv : Int) (cnt : Nat) (E : Nat → Int) (G : Nat → Bool) (t : Int) : Bool := decide (rB off t ≠ rA off sv t) && decide (rB off t + 60000 * rMin off sv (evK E (rB off t) cnt) G = t)
def rFnd (p1 p2 : Bool) (a b : Int) (F : Nat → Int64) : Nat → Int64 :=
  let g := if p1 then vp_updL F 0 (lL a) else F
  if p2 then vp_updL g (if p1 then 1 else 0) (lL b) else g
/-- what the reference's field tells -/
def rX (t mi : Int) : Int := t / 1000 + 60 * mi
def rFld (off sv : Int) (cnt : Nat) (E : Nat → Int) (G : Nat → Bool) (t w : Int) : Int :=
  let ev := evK E t cnt
  let x := rX t (rMin off sv ev G)
  let d := x / 86400
  let s := x % 86400
  if w = 0 then s % 60 else if w = 1 then s / 60 % 60 else if w = 2 then s / 3600
  else if w = 3 then d - cFD (cY d) (cMo (cY d) d) + 1 else if w = 4 then cMo (cY d) d else if w = 5 then cY d
  else if w = 6 then cWd d + 1 else if w = 7 then rMin off sv ev G else bI (decide (0 < ev) && G (ev - 1))
section RR
variable {off sv t w : Int} {b e : RU} {cnt : Nat} {E : Nat → Int} {G : Nat → Bool}
theorem zRel_sv (h : zRel off sv b e cnt E G) : 0 ≤ sv ∧ sv ≤ 120 ∧ -840 ≤ off ∧ off ≤ 840 := by
  obtain ⟨h1, h2, ⟨rfl, -⟩ | ⟨h3, h4, -⟩⟩ := h <;> omega
theorem rMin_is (h : zRel off sv b e cnt E G) (ht1 : -60000000 ≤ t) (ht2 : t ≤ 10413900000000) : rMin off sv (evK E t cnt) G = cMin off sv b e t := by
  have hs := rel_sum h ht1 ht2
  unfold rMin cMin
  rw [hs]
  unfold eSum
  split <;> omega
theorem rel_local (h : zRel off sv b e cnt E G) (ht1 : 0 ≤ t) (ht2 : t ≤ 10413791999999) : t + cMin off sv b e t * 60000 = t + 60000 * rMin off sv (evK E t cnt) G := by
  rw [rMin_is h (by omega) (by omega)]; omega
theorem rP1_is (h : zRel off sv b e cnt E G) (ht1 : 0 ≤ t) (ht2 : t ≤ 10413791999999) : (0 < sv → bI (rP1 off sv cnt E G t) = aIn off sv b e t) ∧ (sv = 0 → rP1 off sv cnt E G t = true) := by
  obtain ⟨k1, k2, k3, k4⟩ := zRel_sv h
  have ha : -60000000 ≤ rA off sv t ∧ rA off sv t ≤ 10413900000000 := by unfold rA; omega
  unfold rP1 aIn
  rw [rMin_is h ha.1 ha.2, show t - (off + sv) * 60000 = rA off sv t from by unfold rA; omega]
  unfold cMin
  constructor
  · intro hsv
    congr 1
    cases hc : cSum off sv b e (rA off sv t) with
    | true => simp [rA]
    | false => simp [rA]; omega
  · intro hsv
    subst hsv
    simp [rA]
theorem rP2_is (h : zRel off sv b e cnt E G) (ht1 : 0 ≤ t) (ht2 : t ≤ 10413791999999) : (0 < sv → bI (rP2 off sv cnt E G t) = aOut off sv b e t) ∧ (sv = 0 → rP2 off sv cnt E G t = false) := by
  obtain ⟨k1, k2, k3, k4⟩ := zRel_sv h
  have ha : -60000000 ≤ rB off t ∧ rB off t ≤ 10413900000000 := by unfold rB; omega
  unfold rP2 aOut
  rw [rMin_is h ha.1 ha.2, show t - off * 60000 = rB off t from by unfold rB; omega]
  unfold cMin
  constructor
  · intro hsv
    congr 1
    rw [decide_eq_true (show rB off t ≠ rA off sv t by unfold rA rB; omega), Bool.true_and]
    cases hc : cSum off sv b e (rB off t) with
    | true => simp [rB]; omega
    | false => simp [rB]
  · intro hsv
    subst hsv
    rw [decide_eq_false (show ¬ rB off t ≠ rA off 0 t by unfold rA rB; omega), Bool.false_and]
theorem aIn_0 (hsv : sv = 0) : aIn off sv b e t = 0 ∧ aOut off sv b e t = 1 := by
  subst hsv
  simp [aIn, aOut, cSum, bI]
theorem rel_many (h : zRel off sv b e cnt E G) (ht1 : 0 ≤ t) (ht2 : t ≤ 10413791999999) : aIn off sv b e t + aOut off sv b e t = bI (rP1 off sv cnt E G t) + bI (rP2 off sv cnt E G t) := by
  obtain ⟨k1, k2, k3, k4⟩ := zRel_sv h
  by_cases hsv : sv = 0
  · rw [(aIn_0 hsv).1, (aIn_0 hsv).2, (rP1_is h ht1 ht2).2 hsv, (rP2_is h ht1 ht2).2 hsv]; rfl
  · rw [(rP1_is h ht1 ht2).1 (by omega), (rP2_is h ht1 ht2).1 (by omega)]
/-- what the reference's universal tells, where something reads so -/
def rUni (p1 p2 : Bool) (a b : Int) (lt : Bool) : Int := if p1 = true ∧ ¬ (lt = true ∧ p2 = true) then a else b
theorem rel_uni (h : zRel off sv b e cnt E G) (ht1 : 0 ≤ t) (ht2 : t ≤ 10413791999999) (lt : Bool) : aUni off sv b e t lt = rUni (rP1 off sv cnt E G t) (rP2 off sv cnt E G t) (rA off sv t) (rB off t) lt := by
  obtain ⟨k1, k2, k3, k4⟩ := zRel_sv h
  unfold aUni rUni
  by_cases hsv : sv = 0
  · rw [(aIn_0 hsv).1, (rP1_is h ht1 ht2).2 hsv, (rP2_is h ht1 ht2).2 hsv, if_neg (by omega), if_pos (by simp)]
    unfold rA; omega
  · have e1 := (rP1_is h ht1 ht2).1 (by omega)
    have e2 := (rP2_is h ht1 ht2).1 (by omega)
    rw [← e1, ← e2]
    cases rP1 off sv cnt E G t <;> cases rP2 off sv cnt E G t <;> cases lt <;> simp [bI, rA, rB] <;> omega
theorem rel_chg (h : zRel off sv b e cnt E G) (ht1 : 0 ≤ t) (ht2 : t ≤ 10413791999999) (bk : Bool) : aChg off sv b e t bk = if bI bk = 0 then (if evK E t cnt = cnt then -1 else E (evK E t cnt)) else (if evK E t cnt = 0 ∨ E (evK E t cnt - 1) < 0 then -1 else E (evK E t cnt - 1)) := by
  unfold aChg
  by_cases hb : bI bk = 0
  · rw [if_pos hb, if_pos hb, rel_fwd h ht1 (by omega)]
  · rw [if_neg hb, if_neg hb, rel_back h ht1 (by omega)]
theorem rel_fld (h : zRel off sv b e cnt E G) (ht1 : 0 ≤ t) (ht2 : t ≤ 10413791999999) (hw1 : 0 ≤ w) (hw2 : w ≤ 8) : aFld off sv b e t w = rFld off sv cnt E G t w := by
  obtain ⟨k1, k2, k3, k4⟩ := zRel_sv h
  have hm := rMin_is h (t := t) (by omega) (by omega)
  have hs := rel_sum h (t := t) (by omega) (by omega)
  have hb := cMin_bd (b := b) (e := e) (t := t) k3 k4 k1 k2
  unfold aFld rFld
  simp only [hm]
  unfold eSum at hs
  rw [← hs]
  have hd : (t + cMin off sv b e t * 60000) / 86400000 = rX t (cMin off sv b e t) / 86400 := by unfold rX; omega
  unfold cPart
  rw [hd]
  obtain rfl | rfl | rfl | rfl | rfl | rfl | rfl | rfl | rfl : w = 0 ∨ w = 1 ∨ w = 2 ∨ w = 3 ∨ w = 4 ∨ w = 5 ∨ w = 6 ∨ w = 7 ∨ w = 8 := by omega
  · simp; unfold rX; omega
  · simp; unfold rX; omega
  · simp; unfold rX; omega
  · simp
  · simp
  · simp
  · simp
  · simp
  · simp
end RR
