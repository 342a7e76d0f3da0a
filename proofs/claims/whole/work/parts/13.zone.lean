/-! A zone with summer: what the class computes by its rules, and what the reference finds in its list of events, are the same: mathematics alone. -/
abbrev RU : Type := Int × Int × Int × Int
def uLast (r : RU) (t sh : Int) : Int := rLast r.1 r.2.1 r.2.2.1 r.2.2.2 t sh
def uNext (r : RU) (t sh : Int) : Int := rNext r.1 r.2.1 r.2.2.1 r.2.2.2 t sh
def uMom (r : RU) (y : Int) : Int := rMom r.1 r.2.1 r.2.2.1 r.2.2.2 y
def uOk (r : RU) : Prop := rOk r.1 r.2.1 r.2.2.1 r.2.2.2
def cSum (off sv : Int) (b e : RU) (t : Int) : Bool := decide (0 < sv) && decide (uLast e t (off + sv) < uLast b t off)
def cMin (off sv : Int) (b e : RU) (t : Int) : Int := if cSum off sv b e t then off + sv else off
def zRel (off sv : Int) (b e : RU) (cnt : Nat) (E : Nat → Int) (G : Nat → Bool) : Prop :=
  -840 ≤ off ∧ off ≤ 840 ∧ ((sv = 0 ∧ cnt = 0) ∨ (1 ≤ sv ∧ sv ≤ 120 ∧ uOk b ∧ uOk e ∧ cnt = 660 ∧ evS 660 E G ∧ evM 660 E G (evP 1970 2299 (fun y => uMom b y - off * 60000) (fun y => uMom e y - (off + sv) * 60000))))
def eSum (cnt : Nat) (E : Nat → Int) (G : Nat → Bool) (t : Int) : Bool := decide (0 < evK E t cnt) && G (evK E t cnt - 1)
theorem uMom_bd {r : RU} (h : uOk r) {y : Int} (h1 : 1970 ≤ y) (h2 : y ≤ 2299) : -400000000000 ≤ uMom r y ∧ uMom r y ≤ 20000000000000 := rMom_bd h (by omega) (by omega)
section ZR
variable {off sv t : Int} {b e : RU} {cnt : Nat} {E : Nat → Int} {G : Nat → Bool}
theorem rel_last (h1 : -840 ≤ off) (h2 : off ≤ 840) (h3 : 1 ≤ sv) (h4 : sv ≤ 120) (hb : uOk b) (he : uOk e) (hs : evS 660 E G) (hm : evM 660 E G (evP 1970 2299 (fun y => uMom b y - off * 60000) (fun y => uMom e y - (off + sv) * 60000))) (ht1 : -60000000 ≤ t) (ht2 : t ≤ 10413900000000) :
    (evK E t 660 = 0 ∧ uLast b t off = -1000000000000000 ∧ uLast e t (off + sv) = -1000000000000000) ∨ (0 < evK E t 660 ∧ evK E t 660 - 1 < 660 ∧ max (uLast b t off) (uLast e t (off + sv)) = E (evK E t 660 - 1) ∧ (G (evK E t 660 - 1) = true ↔ uLast e t (off + sv) < uLast b t off)) :=
  ev_last (X := 1000000000000000) hs hm (fun y y1 y2 => by have := uMom_bd hb y1 y2; show -1000000000000000 < uMom b y - off * 60000; omega) (fun y y1 y2 => by have := uMom_bd he y1 y2; show -1000000000000000 < uMom e y - (off + sv) * 60000; omega)
    (rLast_evL hb (by omega) (by omega)) (rLast_evL he (by omega) (by omega))
theorem rel_next (h1 : -840 ≤ off) (h2 : off ≤ 840) (h3 : 1 ≤ sv) (h4 : sv ≤ 120) (hb : uOk b) (he : uOk e) (hs : evS 660 E G) (hm : evM 660 E G (evP 1970 2299 (fun y => uMom b y - off * 60000) (fun y => uMom e y - (off + sv) * 60000))) (ht1 : -60000000 ≤ t) (ht2 : t ≤ 10413900000000) :
    (evK E t 660 = 660 ∧ min (uNext b t off) (uNext e t (off + sv)) = 1000000000000000) ∨ (evK E t 660 < 660 ∧ min (uNext b t off) (uNext e t (off + sv)) = E (evK E t 660) ∧ min (uNext b t off) (uNext e t (off + sv)) < 1000000000000000 ∧ t < min (uNext b t off) (uNext e t (off + sv))) :=
  ev_next (X := 1000000000000000) hs hm (fun y y1 y2 => by have := uMom_bd hb y1 y2; show uMom b y - off * 60000 < 1000000000000000; omega) (fun y y1 y2 => by have := uMom_bd he y1 y2; show uMom e y - (off + sv) * 60000 < 1000000000000000; omega)
    (rNext_evN hb (by omega) (by omega)) (rNext_evN he (by omega) (by omega))
theorem rel_sum (h : zRel off sv b e cnt E G) (ht1 : -60000000 ≤ t) (ht2 : t ≤ 10413900000000) : cSum off sv b e t = eSum cnt E G t := by
  obtain ⟨h1, h2, ⟨rfl, rfl⟩ | ⟨h3, h4, hb, he, rfl, hs, hm⟩⟩ := h
  · simp [cSum, eSum, evK]
  · unfold cSum eSum
    rw [decide_eq_true (show 0 < sv by omega), Bool.true_and]
    rcases rel_last h1 h2 h3 h4 hb he hs hm ht1 ht2 with ⟨k, l1, l2⟩ | ⟨k, -, -, g⟩
    · rw [k, l1, l2]; simp
    · rw [decide_eq_true k, Bool.true_and]
      cases hg : G (evK E t 660 - 1) with
      | true => exact decide_eq_true (g.mp hg)
      | false => exact decide_eq_false (fun q => by rw [g.mpr q] at hg; cases hg)
/-- the last change not behind t, as both tell it -/
def cBack (off sv : Int) (b e : RU) (t : Int) : Int := if sv = 0 then -1000000000000000 else max (uLast b t off) (uLast e t (off + sv))
def cFwd (off sv : Int) (b e : RU) (t : Int) : Int := if sv = 0 then 1000000000000000 else min (uNext b t off) (uNext e t (off + sv))
def cTell (f : Int) : Int := if f < 0 ∨ f = 1000000000000000 then -1 else f
theorem rel_back (h : zRel off sv b e cnt E G) (ht1 : 0 ≤ t) (ht2 : t ≤ 10413900000000) : cTell (cBack off sv b e t) = if evK E t cnt = 0 ∨ E (evK E t cnt - 1) < 0 then -1 else E (evK E t cnt - 1) := by
  obtain ⟨h1, h2, ⟨rfl, rfl⟩ | ⟨h3, h4, hb, he, rfl, hs, hm⟩⟩ := h
  · simp [cTell, cBack, evK]
  · unfold cTell cBack
    rw [if_neg (show ¬ sv = 0 by omega)]
    have hlo := evK_lo (t := t) hs
    rcases rel_last h1 h2 h3 h4 hb he hs hm (by omega) ht2 with ⟨k, l1, l2⟩ | ⟨k, k2, l, -⟩
    · rw [k, l1, l2]; simp
    · rw [l]
      have := hlo (evK E t 660 - 1) (by omega)
      by_cases q : E (evK E t 660 - 1) < 0
      · rw [if_pos (Or.inl q), if_pos (Or.inr q)]
      · rw [if_neg (by omega), if_neg (by omega)]
theorem rel_fwd (h : zRel off sv b e cnt E G) (ht1 : 0 ≤ t) (ht2 : t ≤ 10413900000000) : cTell (cFwd off sv b e t) = if evK E t cnt = cnt then -1 else E (evK E t cnt) := by
  obtain ⟨h1, h2, ⟨rfl, rfl⟩ | ⟨h3, h4, hb, he, rfl, hs, hm⟩⟩ := h
  · simp [cTell, cFwd, evK]
  · unfold cTell cFwd
    rw [if_neg (show ¬ sv = 0 by omega)]
    rcases rel_next h1 h2 h3 h4 hb he hs hm (by omega) ht2 with ⟨k, l⟩ | ⟨k, l1, l2, l3⟩
    · rw [k, l]; simp
    · rw [if_neg (by omega), if_neg (by omega), l1]
end ZR
