/-! A sorted list of events (begin before end where the times are the same), its making by insertion, and the search in it: mathematics alone. -/
def evS (n : Nat) (E : Nat → Int) (G : Nat → Bool) : Prop := ∀ i j, i < j → j < n → E i < E j ∨ (E i = E j ∧ (G j = true → G i = true))
def evM (n : Nat) (E : Nat → Int) (G : Nat → Bool) (P : Int → Bool → Prop) : Prop := (∀ i, i < n → P (E i) (G i)) ∧ ∀ v b, P v b → ∃ i, i < n ∧ E i = v ∧ G i = b
/-- the entry must give way -/
def evC (v w : Int) (b g : Bool) : Prop := v > w ∨ (v = w ∧ b = true ∧ g = false)
def evIns {α : Type} (F : Nat → α) (k : Nat) (x : α) : Nat → α := fun j => if j < k then F j else if j = k then x else F (j - 1)
theorem evIns_lo {α : Type} {F : Nat → α} {k : Nat} {x : α} {j : Nat} (h : j < k) : evIns F k x j = F j := by simp [evIns, h]
theorem evIns_at {α : Type} {F : Nat → α} {k : Nat} {x : α} : evIns F k x k = x := by simp [evIns]
theorem evIns_hi {α : Type} {F : Nat → α} {k : Nat} {x : α} {j : Nat} (h : k < j) : evIns F k x j = F (j - 1) := by
  simp [evIns, show ¬ j < k from by omega, show ¬ j = k from by omega]
theorem evS_ins {n k : Nat} {E : Nat → Int} {G : Nat → Bool} {w : Int} {b : Bool} (hs : evS n E G) (hk : k ≤ n) (hc : ∀ j, k ≤ j → j < n → evC (E j) w b (G j)) (hx : k = 0 ∨ ¬ evC (E (k - 1)) w b (G (k - 1))) :
    evS (n + 1) (evIns E k w) (evIns G k b) := by
  intro i j hij hj
  have lo : ∀ i, i < k → E i < w ∨ (E i = w ∧ (b = true → G i = true)) := by
    intro i hi
    rcases hx with h0 | hx
    · omega
    · have hx1 : ¬ E (k - 1) > w := fun q => hx (Or.inl q)
      have hx2 : ¬ (E (k - 1) = w ∧ b = true ∧ G (k - 1) = false) := fun q => hx (Or.inr q)
      by_cases e : i = k - 1
      · subst e
        by_cases q : E (k - 1) < w
        · exact Or.inl q
        · refine Or.inr ⟨by omega, fun hb => ?_⟩
          cases hg : G (k - 1) with
          | true => rfl
          | false => exact absurd ⟨by omega, hb, hg⟩ hx2
      · rcases hs i (k - 1) (by omega) (by omega) with q | ⟨q1, q2⟩
        · exact Or.inl (by omega)
        · by_cases q : E (k - 1) < w
          · exact Or.inl (by omega)
          · refine Or.inr ⟨by omega, fun hb => q2 ?_⟩
            cases hg : G (k - 1) with
            | true => rfl
            | false => exact absurd ⟨by omega, hb, hg⟩ hx2
  by_cases h1 : j < k
  · rw [evIns_lo (show i < k by omega), evIns_lo h1, evIns_lo (show i < k by omega), evIns_lo h1]
    exact hs i j hij (by omega)
  · by_cases h2 : j = k
    · subst h2
      rw [evIns_lo hij, evIns_at, evIns_lo hij, evIns_at]
      exact lo i hij
    · rw [evIns_hi (show k < j by omega), evIns_hi (show k < j by omega)]
      have hc1 := hc (j - 1) (by omega) (by omega)
      by_cases h3 : i < k
      · rw [evIns_lo h3, evIns_lo h3]
        exact hs i (j - 1) (by omega) (by omega)
      · by_cases h4 : i = k
        · subst h4
          rw [evIns_at, evIns_at]
          rcases hc1 with q | ⟨q1, q2, q3⟩
          · exact Or.inl (by omega)
          · exact Or.inr ⟨by omega, fun _ => q2⟩
        · rw [evIns_hi (show k < i by omega), evIns_hi (show k < i by omega)]
          exact hs (i - 1) (j - 1) (by omega) (by omega)
theorem evM_ins {n k : Nat} {E : Nat → Int} {G : Nat → Bool} {w : Int} {b : Bool} {P : Int → Bool → Prop} (hm : evM n E G P) (hk : k ≤ n) :
    evM (n + 1) (evIns E k w) (evIns G k b) (fun v c => P v c ∨ (v = w ∧ c = b)) := by
  refine ⟨fun i hi => ?_, fun v c h => ?_⟩
  · by_cases h1 : i < k
    · rw [evIns_lo h1, evIns_lo h1]; exact Or.inl (hm.1 i (by omega))
    · by_cases h2 : i = k
      · subst h2; rw [evIns_at, evIns_at]; exact Or.inr ⟨rfl, rfl⟩
      · rw [evIns_hi (show k < i by omega), evIns_hi (show k < i by omega)]; exact Or.inl (hm.1 (i - 1) (by omega))
  · rcases h with h | ⟨h1, h2⟩
    · obtain ⟨i, hi, e1, e2⟩ := hm.2 v c h
      by_cases q : i < k
      · exact ⟨i, by omega, by rw [evIns_lo q]; exact e1, by rw [evIns_lo q]; exact e2⟩
      · exact ⟨i + 1, by omega, by rw [evIns_hi (show k < i + 1 by omega)]; exact e1, by rw [evIns_hi (show k < i + 1 by omega)]; exact e2⟩
    · exact ⟨k, by omega, by rw [evIns_at, h1], by rw [evIns_at, h2]⟩
/-- how many events have passed -/
def evK (E : Nat → Int) (t : Int) : Nat → Nat
  | 0 => 0
  | n + 1 => if E n ≤ t then n + 1 else evK E t n
theorem evK_le (E : Nat → Int) (t : Int) : ∀ n, evK E t n ≤ n
  | 0 => Nat.le_refl 0
  | n + 1 => by
    unfold evK
    split
    · exact Nat.le_refl _
    · exact Nat.le_succ_of_le (evK_le E t n)
theorem evK_of {E : Nat → Int} {t : Int} : ∀ {n k : Nat}, k ≤ n → (∀ i, i < k → E i ≤ t) → (∀ i, k ≤ i → i < n → t < E i) → evK E t n = k
  | 0, k, h, _, _ => by simp [evK]; omega
  | n + 1, k, h, h1, h2 => by
    unfold evK
    split
    · rename_i q
      by_cases e : k = n + 1
      · exact e.symm
      · have := h2 n (by omega) (by omega); omega
    · rename_i q
      by_cases e : k = n + 1
      · have := h1 n (by omega); omega
      · exact evK_of (by omega) h1 (fun i a b => h2 i a (by omega))
theorem evK_lo {n : Nat} {E : Nat → Int} {G : Nat → Bool} {t : Int} (hs : evS n E G) : ∀ i, i < evK E t n → E i ≤ t := by
  induction n with
  | zero => intro i hi; simp [evK] at hi
  | succ n ih =>
    intro i hi
    unfold evK at hi
    split at hi
    · rename_i q
      by_cases e : i = n
      · rw [e]; exact q
      · rcases hs i n (by omega) (by omega) with h | ⟨h, -⟩ <;> omega
    · exact ih (fun a b c d => hs a b c (by omega)) i hi
theorem evK_hi {n : Nat} {E : Nat → Int} {t : Int} : ∀ i, evK E t n ≤ i → i < n → t < E i := by
  induction n with
  | zero => intro i _ hi; omega
  | succ n ih =>
    intro i h1 hi
    unfold evK at h1
    split at h1
    · omega
    · rename_i q
      by_cases e : i = n
      · rw [e]; omega
      · exact ih i h1 (by omega)
/-- the events of two rows of times -/
def evP (lo hi : Int) (Bv Ev : Int → Int) (v : Int) (b : Bool) : Prop := ∃ y, lo ≤ y ∧ y ≤ hi ∧ ((b = true ∧ v = Bv y) ∨ (b = false ∧ v = Ev y))
def evL (lo hi X t : Int) (Bv : Int → Int) (lb : Int) : Prop := (lb = -X ∧ ∀ y, lo ≤ y → y ≤ hi → t < Bv y) ∨ (∃ z, lo ≤ z ∧ z ≤ hi ∧ lb = Bv z ∧ Bv z ≤ t ∧ ∀ y, lo ≤ y → y ≤ hi → Bv y ≤ t → Bv y ≤ Bv z)
def evN (lo hi X t : Int) (Bv : Int → Int) (nb : Int) : Prop := (nb = X ∧ ∀ y, lo ≤ y → y ≤ hi → Bv y ≤ t) ∨ (∃ z, lo ≤ z ∧ z ≤ hi ∧ nb = Bv z ∧ t < Bv z ∧ ∀ y, lo ≤ y → y ≤ hi → t < Bv y → Bv z ≤ Bv y)
section EV
variable {n : Nat} {E : Nat → Int} {G : Nat → Bool} {lo hi X t lb le nb ne : Int} {Bv Ev : Int → Int}
theorem ev_last (hs : evS n E G) (hm : evM n E G (evP lo hi Bv Ev)) (hX1 : ∀ y, lo ≤ y → y ≤ hi → -X < Bv y) (hX2 : ∀ y, lo ≤ y → y ≤ hi → -X < Ev y) (hb : evL lo hi X t Bv lb) (he : evL lo hi X t Ev le) :
    (evK E t n = 0 ∧ lb = -X ∧ le = -X) ∨ (0 < evK E t n ∧ evK E t n - 1 < n ∧ max lb le = E (evK E t n - 1) ∧ (G (evK E t n - 1) = true ↔ le < lb)) := by
  have klo := evK_lo (t := t) hs
  have khi := evK_hi (n := n) (E := E) (t := t)
  have kle := evK_le E t n
  generalize hk : evK E t n = k at klo khi kle
  by_cases h0 : k = 0
  · refine Or.inl ⟨h0, ?_, ?_⟩
    · rcases hb with ⟨h, -⟩ | ⟨z, z1, z2, z3, z4, -⟩
      · exact h
      · obtain ⟨i, i1, i2, -⟩ := hm.2 (Bv z) true ⟨z, z1, z2, Or.inl ⟨rfl, rfl⟩⟩
        have := khi i (by omega) i1; omega
    · rcases he with ⟨h, -⟩ | ⟨z, z1, z2, z3, z4, -⟩
      · exact h
      · obtain ⟨i, i1, i2, -⟩ := hm.2 (Ev z) false ⟨z, z1, z2, Or.inr ⟨rfl, rfl⟩⟩
        have := khi i (by omega) i1; omega
  · refine Or.inr ⟨by omega, by omega, ?_⟩
    have top : ∀ i, i < n → E i ≤ t → E i ≤ E (k - 1) := by
      intro i h1 h2
      by_cases q : k ≤ i
      · have := khi i q h1; omega
      · by_cases e : i = k - 1
        · rw [e]; omega
        · rcases hs i (k - 1) (by omega) (by omega) with h | ⟨h, -⟩ <;> omega
    have hlast := klo (k - 1) (by omega)
    have lbt : lb ≤ E (k - 1) := by
      rcases hb with ⟨h, -⟩ | ⟨z, z1, z2, z3, z4, -⟩
      · obtain ⟨y, y1, y2, ⟨-, y3⟩ | ⟨-, y3⟩⟩ := hm.1 (k - 1) (by omega)
        · have := hX1 y y1 y2; omega
        · have := hX2 y y1 y2; omega
      · obtain ⟨i, i1, i2, -⟩ := hm.2 (Bv z) true ⟨z, z1, z2, Or.inl ⟨rfl, rfl⟩⟩
        have := top i i1 (by omega); omega
    have let' : le ≤ E (k - 1) := by
      rcases he with ⟨h, -⟩ | ⟨z, z1, z2, z3, z4, -⟩
      · obtain ⟨y, y1, y2, ⟨-, y3⟩ | ⟨-, y3⟩⟩ := hm.1 (k - 1) (by omega)
        · have := hX1 y y1 y2; omega
        · have := hX2 y y1 y2; omega
      · obtain ⟨i, i1, i2, -⟩ := hm.2 (Ev z) false ⟨z, z1, z2, Or.inr ⟨rfl, rfl⟩⟩
        have := top i i1 (by omega); omega
    obtain ⟨y, y1, y2, ⟨g, y3⟩ | ⟨g, y3⟩⟩ := hm.1 (k - 1) (by omega)
    · have hlb : lb = E (k - 1) := by
        rcases hb with ⟨h, q⟩ | ⟨z, z1, z2, z3, z4, z5⟩
        · have := q y y1 y2; omega
        · have := z5 y y1 y2 (by omega); omega
      have hlt : le < lb := by
        rcases he with ⟨h, -⟩ | ⟨z, z1, z2, z3, z4, -⟩
        · have := hX1 y y1 y2; omega
        · obtain ⟨i, i1, i2, i3⟩ := hm.2 (Ev z) false ⟨z, z1, z2, Or.inr ⟨rfl, rfl⟩⟩
          by_cases q : k ≤ i
          · have := khi i q i1; omega
          · by_cases e : i = k - 1
            · rw [e, g] at i3; cases i3
            · rcases hs i (k - 1) (by omega) (by omega) with h | ⟨h, h2⟩
              · omega
              · rw [h2 g] at i3; cases i3
      exact ⟨by omega, by simp [g, hlt]⟩
    · have hle : le = E (k - 1) := by
        rcases he with ⟨h, q⟩ | ⟨z, z1, z2, z3, z4, z5⟩
        · have := q y y1 y2; omega
        · have := z5 y y1 y2 (by omega); omega
      exact ⟨by omega, by simp [g]; omega⟩
theorem ev_next (hs : evS n E G) (hm : evM n E G (evP lo hi Bv Ev)) (hX1 : ∀ y, lo ≤ y → y ≤ hi → Bv y < X) (hX2 : ∀ y, lo ≤ y → y ≤ hi → Ev y < X) (hb : evN lo hi X t Bv nb) (he : evN lo hi X t Ev ne) :
    (evK E t n = n ∧ min nb ne = X) ∨ (evK E t n < n ∧ min nb ne = E (evK E t n) ∧ min nb ne < X ∧ t < min nb ne) := by
  have klo := evK_lo (t := t) hs
  have khi := evK_hi (n := n) (E := E) (t := t)
  have kle := evK_le E t n
  generalize hk : evK E t n = k at klo khi kle
  by_cases h0 : k = n
  · refine Or.inl ⟨h0, ?_⟩
    have a : nb = X := by
      rcases hb with ⟨h, -⟩ | ⟨z, z1, z2, z3, z4, -⟩
      · exact h
      · obtain ⟨i, i1, i2, -⟩ := hm.2 (Bv z) true ⟨z, z1, z2, Or.inl ⟨rfl, rfl⟩⟩
        have := klo i (by omega); omega
    have b : ne = X := by
      rcases he with ⟨h, -⟩ | ⟨z, z1, z2, z3, z4, -⟩
      · exact h
      · obtain ⟨i, i1, i2, -⟩ := hm.2 (Ev z) false ⟨z, z1, z2, Or.inr ⟨rfl, rfl⟩⟩
        have := klo i (by omega); omega
    omega
  · refine Or.inr ⟨by omega, ?_⟩
    have bot : ∀ i, i < n → t < E i → E k ≤ E i := by
      intro i h1 h2
      by_cases q : i < k
      · have := klo i q; omega
      · by_cases e : i = k
        · rw [e]; omega
        · rcases hs k i (by omega) (by omega) with h | ⟨h, -⟩ <;> omega
    have hfirst := khi k (by omega) (by omega)
    have nbt : E k ≤ nb := by
      rcases hb with ⟨h, -⟩ | ⟨z, z1, z2, z3, z4, -⟩
      · obtain ⟨y, y1, y2, ⟨-, y3⟩ | ⟨-, y3⟩⟩ := hm.1 k (by omega)
        · have := hX1 y y1 y2; omega
        · have := hX2 y y1 y2; omega
      · obtain ⟨i, i1, i2, -⟩ := hm.2 (Bv z) true ⟨z, z1, z2, Or.inl ⟨rfl, rfl⟩⟩
        have := bot i i1 (by omega); omega
    have net : E k ≤ ne := by
      rcases he with ⟨h, -⟩ | ⟨z, z1, z2, z3, z4, -⟩
      · obtain ⟨y, y1, y2, ⟨-, y3⟩ | ⟨-, y3⟩⟩ := hm.1 k (by omega)
        · have := hX1 y y1 y2; omega
        · have := hX2 y y1 y2; omega
      · obtain ⟨i, i1, i2, -⟩ := hm.2 (Ev z) false ⟨z, z1, z2, Or.inr ⟨rfl, rfl⟩⟩
        have := bot i i1 (by omega); omega
    obtain ⟨y, y1, y2, ⟨g, y3⟩ | ⟨g, y3⟩⟩ := hm.1 k (by omega)
    · have e1 : nb = E k := by
        rcases hb with ⟨h, q⟩ | ⟨z, z1, z2, z3, z4, z5⟩
        · have := q y y1 y2; omega
        · have := z5 y y1 y2 (by omega); omega
      have := hX1 y y1 y2
      omega
    · have e1 : ne = E k := by
        rcases he with ⟨h, q⟩ | ⟨z, z1, z2, z3, z4, z5⟩
        · have := q y y1 y2; omega
        · have := z5 y y1 y2 (by omega); omega
      have := hX2 y y1 y2
      omega
end EV
/-- rLast and rNext in these words -/
theorem rLast_evL {mo wk wd mi t sh : Int} (h : rOk mo wk wd mi) (h1 : -31536000000 ≤ t + sh * 60000) (h2 : t + sh * 60000 ≤ 10540000000000) :
    evL 1970 2299 1000000000000000 t (fun y => rMom mo wk wd mi y - sh * 60000) (rLast mo wk wd mi t sh) := by
  rcases rLast_is h h1 h2 with ⟨a, b⟩ | ⟨z, a, b, c, d, f⟩
  · exact Or.inl ⟨a, b⟩
  · refine Or.inr ⟨z, a, b, c, d, fun y y1 y2 y3 => ?_⟩
    have := f y y1 y2 y3
    by_cases e : y = z
    · rw [e]; exact Int.le_refl _
    · have := rMom_mono h (a := y) (b := z) (by omega)
      show rMom mo wk wd mi y - sh * 60000 ≤ rMom mo wk wd mi z - sh * 60000
      omega
theorem rNext_evN {mo wk wd mi t sh : Int} (h : rOk mo wk wd mi) (h1 : -31536000000 ≤ t + sh * 60000) (h2 : t + sh * 60000 ≤ 10540000000000) :
    evN 1970 2299 1000000000000000 t (fun y => rMom mo wk wd mi y - sh * 60000) (rNext mo wk wd mi t sh) := by
  rcases rNext_is h h1 h2 with ⟨a, b⟩ | ⟨z, a, b, c, d, f⟩
  · exact Or.inl ⟨a, b⟩
  · refine Or.inr ⟨z, a, b, c, d, fun y y1 y2 y3 => ?_⟩
    have := f y y1 y2 y3
    by_cases e : y = z
    · rw [e]; exact Int.le_refl _
    · have := rMom_mono h (a := z) (b := y) (by omega)
      show rMom mo wk wd mi z - sh * 60000 ≤ rMom mo wk wd mi y - sh * 60000
      omega
theorem rMom_bd {mo wk wd mi y : Int} (h : rOk mo wk wd mi) (h1 : 1960 ≤ y) (h2 : y ≤ 2310) : -400000000000 ≤ rMom mo wk wd mi y ∧ rMom mo wk wd mi y ≤ 20000000000000 := by
  have a := rMom_lo h y
  have b := rMom_hi h y
  have c := cYear_b (y := y) (by omega) (by omega)
  have d := cYear_b (y := y + 1) (by omega) (by omega)
  unfold cYear at *
  omega
