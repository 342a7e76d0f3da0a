/-! An event put into a row of events; a rule's text read step by step; a whole text's: mathematics alone. -/
def evPos (E : Nat → Int) (G : Nat → Bool) (w : Int) (b : Bool) : Nat → Nat
  | 0 => 0
  | n + 1 => if E n > w ∨ (E n = w ∧ b = true ∧ G n = false) then evPos E G w b n else n + 1
theorem evPos_le (E : Nat → Int) (G : Nat → Bool) (w : Int) (b : Bool) : ∀ n, evPos E G w b n ≤ n
  | 0 => Nat.le_refl 0
  | n + 1 => by
    unfold evPos
    split
    · exact Nat.le_succ_of_le (evPos_le E G w b n)
    · exact Nat.le_refl _
theorem evPos_hi {E : Nat → Int} {G : Nat → Bool} {w : Int} {b : Bool} : ∀ {n j : Nat}, evPos E G w b n ≤ j → j < n → evC (E j) w b (G j)
  | 0, j, h1, h2 => by omega
  | n + 1, j, h1, h2 => by
    unfold evPos at h1
    split at h1
    · rename_i q
      by_cases e : j = n
      · rw [e]; exact q
      · exact evPos_hi h1 (by omega)
    · omega
theorem evPos_lo {E : Nat → Int} {G : Nat → Bool} {w : Int} {b : Bool} : ∀ {n : Nat}, evPos E G w b n = 0 ∨ ¬ evC (E (evPos E G w b n - 1)) w b (G (evPos E G w b n - 1))
  | 0 => Or.inl rfl
  | n + 1 => by
    unfold evPos
    split
    · exact evPos_lo
    · rename_i q
      exact Or.inr q
theorem evPos_go {E : Nat → Int} {G : Nat → Bool} {w : Int} {b : Bool} {k : Nat} (h : 0 < k) (hc : E (k - 1) > w ∨ (E (k - 1) = w ∧ b = true ∧ G (k - 1) = false)) : evPos E G w b k = evPos E G w b (k - 1) := by
  obtain ⟨n, rfl⟩ : ∃ n, k = n + 1 := ⟨k - 1, by omega⟩
  rw [show n + 1 - 1 = n from by omega] at hc ⊢
  conv => lhs; unfold evPos
  rw [if_pos hc]
theorem evPos_st {E : Nat → Int} {G : Nat → Bool} {w : Int} {b : Bool} {k : Nat} (hc : k = 0 ∨ ¬ (E (k - 1) > w ∨ (E (k - 1) = w ∧ b = true ∧ G (k - 1) = false))) : evPos E G w b k = k := by
  cases k with
  | zero => rfl
  | succ n =>
    rcases hc with h | h
    · omega
    · rw [show n + 1 - 1 = n from by omega] at h
      unfold evPos
      rw [if_neg h]
/-- the entries from k on moved one on, up to n -/
def evSh {α : Type} (F : Nat → α) (n k : Nat) : Nat → α := fun j => if k < j ∧ j ≤ n then F (j - 1) else F j
def evPut {α : Type} (F : Nat → α) (k n : Nat) (x : α) : Nat → α := fun j => if j = k then x else evSh F n k j
theorem evSh_0 {α : Type} {F : Nat → α} {n : Nat} : evSh F n n = F := by funext j; unfold evSh; rw [if_neg (by omega)]
theorem evSh_at {α : Type} {F : Nat → α} {n k j : Nat} (h : j ≤ k) : evSh F n k j = F j := by unfold evSh; rw [if_neg (by omega)]
theorem evSh_upL {F : Nat → Int} {n k : Nat} (h : 0 < k) (h2 : k ≤ n) : vp_updL (fun j => lL (evSh F n k j)) k (lL (evSh F n k (k - 1))) = fun j => lL (evSh F n (k - 1) j) := by
  funext j
  by_cases e : j = k
  · subst e
    simp only [vp_updL, evSh, if_true]
    rw [if_neg (by omega), if_pos (by omega)]
  · simp only [vp_updL, evSh, e]
    by_cases q : k < j ∧ j ≤ n
    · simp [q, show k - 1 < j from by omega, show ¬ j = k from e]
    · simp [q, e, show ¬ (k - 1 < j ∧ j ≤ n) from by omega]
theorem evSh_upG {F : Nat → Bool} {n k : Nat} (h : 0 < k) (h2 : k ≤ n) : upd (fun j => iI (bI (evSh F n k j))) k (iI (bI (evSh F n k (k - 1)))) = fun j => iI (bI (evSh F n (k - 1) j)) := by
  funext j
  by_cases e : j = k
  · subst e
    simp only [upd, evSh, if_true]
    rw [if_neg (by omega), if_pos (by omega)]
  · simp only [upd, evSh, e]
    by_cases q : k < j ∧ j ≤ n
    · simp [q, show k - 1 < j from by omega, show ¬ j = k from e]
    · simp [q, e, show ¬ (k - 1 < j ∧ j ≤ n) from by omega]
theorem evPut_upL {F : Nat → Int} {n k : Nat} {x : Int} : vp_updL (fun j => lL (evSh F n k j)) k (lL x) = fun j => lL (evPut F k n x j) := by
  funext j
  by_cases e : j = k <;> simp [vp_updL, evPut, e]
theorem evPut_upG {F : Nat → Bool} {n k : Nat} {x : Bool} : upd (fun j => iI (bI (evSh F n k j))) k (iI (bI x)) = fun j => iI (bI (evPut F k n x j)) := by
  funext j
  by_cases e : j = k <;> simp [upd, evPut, e]
theorem evPut_ins {α : Type} {F : Nat → α} {k n : Nat} {x : α} {j : Nat} (h : j ≤ n) : evPut F k n x j = evIns F k x j := by
  unfold evPut evSh evIns
  by_cases e : j = k
  · simp [e]
  · by_cases q : j < k
    · simp [e, q, show ¬ (k < j ∧ j ≤ n) from by omega]
    · simp [e, q, show k < j ∧ j ≤ n from by omega]
theorem evS_cong {n : Nat} {E E' : Nat → Int} {G G' : Nat → Bool} (h1 : ∀ j, j < n → E j = E' j) (h2 : ∀ j, j < n → G j = G' j) (h : evS n E' G') : evS n E G := by
  intro i j hij hj
  rw [h1 i (by omega), h1 j hj, h2 i (by omega), h2 j hj]
  exact h i j hij hj
theorem evM_cong {n : Nat} {E E' : Nat → Int} {G G' : Nat → Bool} {P P' : Int → Bool → Prop} (h1 : ∀ j, j < n → E j = E' j) (h2 : ∀ j, j < n → G j = G' j) (h3 : ∀ v b, P v b ↔ P' v b) (h : evM n E' G' P') : evM n E G P := by
  refine ⟨fun i hi => ?_, fun v b hv => ?_⟩
  · rw [h1 i hi, h2 i hi, h3]; exact h.1 i hi
  · obtain ⟨i, a, b, c⟩ := h.2 v b ((h3 v b).mp hv)
    exact ⟨i, a, by rw [h1 i a]; exact b, by rw [h2 i a]; exact c⟩
theorem evS_put {n : Nat} {E : Nat → Int} {G : Nat → Bool} {w : Int} {b : Bool} (hs : evS n E G) : evS (n + 1) (evPut E (evPos E G w b n) n w) (evPut G (evPos E G w b n) n b) :=
  evS_cong (fun j hj => evPut_ins (by omega)) (fun j hj => evPut_ins (by omega)) (evS_ins hs (evPos_le E G w b n) (fun j h1 h2 => evPos_hi h1 h2) evPos_lo)
theorem evM_put {n : Nat} {E : Nat → Int} {G : Nat → Bool} {w : Int} {b : Bool} {P : Int → Bool → Prop} (hm : evM n E G P) : evM (n + 1) (evPut E (evPos E G w b n) n w) (evPut G (evPos E G w b n) n b) (fun v c => P v c ∨ (v = w ∧ c = b)) :=
  evM_cong (fun j hj => evPut_ins (by omega)) (fun j hj => evPut_ins (by omega)) (fun _ _ => Iff.rfl) (evM_ins hm (evPos_le E G w b n))
theorem evPut_bd {F : Nat → Int} {k n : Nat} {x : Int} (hx : -1000000000000000 ≤ x ∧ x ≤ 1000000000000000) (hF : ∀ j, j < 660 → -1000000000000000 ≤ F j ∧ F j ≤ 1000000000000000) : ∀ j, j < 660 → -1000000000000000 ≤ evPut F k n x j ∧ evPut F k n x j ≤ 1000000000000000 := by
  intro j hj
  unfold evPut evSh
  split
  · exact hx
  · split
    · exact hF (j - 1) (by omega)
    · exact hF j hj
/-- the events of the years from 1970 on -/
def evRun (Bv Ev : Int → Int) (F : Nat → Int) (G : Nat → Bool) : Nat → (Nat → Int) × (Nat → Bool)
  | 0 => (F, G)
  | k + 1 =>
    let s := evRun Bv Ev F G k
    let y : Int := 1970 + k
    let E1 := evPut s.1 (evPos s.1 s.2 (Bv y) true (2 * k)) (2 * k) (Bv y)
    let G1 := evPut s.2 (evPos s.1 s.2 (Bv y) true (2 * k)) (2 * k) true
    (evPut E1 (evPos E1 G1 (Ev y) false (2 * k + 1)) (2 * k + 1) (Ev y), evPut G1 (evPos E1 G1 (Ev y) false (2 * k + 1)) (2 * k + 1) false)
theorem evRun_S {Bv Ev : Int → Int} {F : Nat → Int} {G : Nat → Bool} : ∀ k, evS (2 * k) (evRun Bv Ev F G k).1 (evRun Bv Ev F G k).2
  | 0 => by intro i j h1 h2; omega
  | k + 1 => by
    have h := evS_put (w := Ev (1970 + k)) (b := false) (evS_put (w := Bv (1970 + k)) (b := true) (evRun_S (Bv := Bv) (Ev := Ev) (F := F) (G := G) k))
    exact h
theorem evRun_M {Bv Ev : Int → Int} {F : Nat → Int} {G : Nat → Bool} : ∀ k : Nat, evM (2 * k) (evRun Bv Ev F G k).1 (evRun Bv Ev F G k).2 (evP 1970 (1970 + k - 1) Bv Ev)
  | 0 => by
    refine ⟨fun i hi => by omega, fun v b h => ?_⟩
    obtain ⟨y, h1, h2, -⟩ := h
    simp at h2
    omega
  | k + 1 => by
    have h := evM_put (w := Ev (1970 + k)) (b := false) (evM_put (w := Bv (1970 + k)) (b := true) (evRun_M (Bv := Bv) (Ev := Ev) (F := F) (G := G) k))
    refine evM_cong (fun _ _ => rfl) (fun _ _ => rfl) (fun v b => ?_) h
    constructor
    · rintro ⟨y, h1, h2, h3⟩
      by_cases e : y = 1970 + k
      · subst e
        rcases h3 with ⟨h3, h4⟩ | ⟨h3, h4⟩
        · exact Or.inl (Or.inr ⟨h4, h3⟩)
        · exact Or.inr ⟨h4, h3⟩
      · exact Or.inl (Or.inl ⟨y, h1, by omega, h3⟩)
    · rintro ((⟨y, h1, h2, h3⟩ | ⟨h1, h2⟩) | ⟨h1, h2⟩)
      · exact ⟨y, h1, by omega, h3⟩
      · exact ⟨1970 + k, by omega, by omega, Or.inl ⟨h2, h1⟩⟩
      · exact ⟨1970 + k, by omega, by omega, Or.inr ⟨h2, h1⟩⟩
theorem evRun_bd {Bv Ev : Int → Int} {F : Nat → Int} {G : Nat → Bool} (hF : ∀ j, j < 660 → -1000000000000000 ≤ F j ∧ F j ≤ 1000000000000000) (hB : ∀ y, 1970 ≤ y → y ≤ 2299 → -1000000000000000 ≤ Bv y ∧ Bv y ≤ 1000000000000000) (hE : ∀ y, 1970 ≤ y → y ≤ 2299 → -1000000000000000 ≤ Ev y ∧ Ev y ≤ 1000000000000000) : ∀ k, k ≤ 330 → ∀ j, j < 660 → -1000000000000000 ≤ (evRun Bv Ev F G k).1 j ∧ (evRun Bv Ev F G k).1 j ≤ 1000000000000000
  | 0, _ => hF
  | k + 1, h => evPut_bd (hE (1970 + k) (by omega) (by omega)) (evPut_bd (hB (1970 + k) (by omega) (by omega)) (evRun_bd hF hB hE k (by omega)))
theorem evRun_rel {off sv : Int} {b e : RU} {F : Nat → Int} {G : Nat → Bool} (h1 : -840 ≤ off) (h2 : off ≤ 840) (h3 : 1 ≤ sv) (h4 : sv ≤ 120) (hb : uOk b) (he : uOk e) :
    zRel off sv b e 660 (evRun (fun y => uMom b y - off * 60000) (fun y => uMom e y - (off + sv) * 60000) F G 330).1 (evRun (fun y => uMom b y - off * 60000) (fun y => uMom e y - (off + sv) * 60000) F G 330).2 :=
  ⟨h1, h2, Or.inr ⟨h3, h4, hb, he, rfl, evRun_S 330, evRun_M 330⟩⟩
theorem upd_upd {F : Nat → Int32} {k : Nat} {a b : Int32} : upd (upd F k a) k b = upd F k b := by
  funext j
  by_cases e : j = k <;> simp [upd, e]
theorem upd_at {F : Nat → Int32} {k : Nat} {a : Int32} : upd F k a k = a := by simp [upd]
theorem upd_ne {F : Nat → Int32} {k j : Nat} {a : Int32} (h : j ≠ k) : upd F k a j = F j := by simp [upd, h]
/-! the way through a rule's text -/
section RT
variable {n : Nat} {f : Nat → Int32}
def rT8 (n : Nat) (f : Nat → Int32) (z : Nat × Bool) : Nat × Bool := (zNum n f 0 1439 z).2
def rT7 (n : Nat) (f : Nat → Int32) (z : Nat × Bool) : Nat × Bool := rT8 n f (zByte n f 47 z)
def rT6 (n : Nat) (f : Nat → Int32) (z : Nat × Bool) : Nat × Bool := rT7 n f (zNum n f 0 6 z).2
def rT5 (n : Nat) (f : Nat → Int32) (z : Nat × Bool) : Nat × Bool := rT6 n f (zByte n f 46 z)
def rT4 (n : Nat) (f : Nat → Int32) (z : Nat × Bool) : Nat × Bool := rT5 n f (zNum n f 1 5 z).2
def rT3 (n : Nat) (f : Nat → Int32) (z : Nat × Bool) : Nat × Bool := rT4 n f (zByte n f 46 z)
def rT2 (n : Nat) (f : Nat → Int32) (z : Nat × Bool) : Nat × Bool := rT3 n f (zNum n f 1 12 z).2
def rT1 (n : Nat) (f : Nat → Int32) (z : Nat × Bool) : Nat × Bool := rT2 n f (zByte n f 77 z)
theorem zRu_T {z : Nat × Bool} : (zRu n f z).2 = rT1 n f z := rfl
theorem rT8_b {i : Nat} : rT8 n f (i, true) = (i, true) := by unfold rT8; rw [zNum_brk n f _ _ rfl]
theorem rT7_b {i : Nat} : rT7 n f (i, true) = (i, true) := by unfold rT7; rw [zByte_brk n f _ rfl, rT8_b]
theorem rT6_b {i : Nat} : rT6 n f (i, true) = (i, true) := by unfold rT6; rw [zNum_brk n f _ _ rfl, rT7_b]
theorem rT5_b {i : Nat} : rT5 n f (i, true) = (i, true) := by unfold rT5; rw [zByte_brk n f _ rfl, rT6_b]
theorem rT4_b {i : Nat} : rT4 n f (i, true) = (i, true) := by unfold rT4; rw [zNum_brk n f _ _ rfl, rT5_b]
theorem rT3_b {i : Nat} : rT3 n f (i, true) = (i, true) := by unfold rT3; rw [zByte_brk n f _ rfl, rT4_b]
theorem rT2_b {i : Nat} : rT2 n f (i, true) = (i, true) := by unfold rT2; rw [zNum_brk n f _ _ rfl, rT3_b]
theorem rT1_b {i : Nat} : rT1 n f (i, true) = (i, true) := by unfold rT1; rw [zByte_brk n f _ rfl, rT2_b]
variable {i : Nat}
theorem rT1_y (h : zPk n f i = 77) : rT1 n f (i, false) = rT2 n f (i + 1, false) := by unfold rT1; rw [zByte_eq h]
theorem rT1_n (h : ¬ zPk n f i = 77) : rT1 n f (i, false) = (i, true) := by unfold rT1; rw [zByte_ne h, rT2_b]
theorem rT3_y (h : zPk n f i = 46) : rT3 n f (i, false) = rT4 n f (i + 1, false) := by unfold rT3; rw [zByte_eq h]
theorem rT3_n (h : ¬ zPk n f i = 46) : rT3 n f (i, false) = (i, true) := by unfold rT3; rw [zByte_ne h, rT4_b]
theorem rT5_y (h : zPk n f i = 46) : rT5 n f (i, false) = rT6 n f (i + 1, false) := by unfold rT5; rw [zByte_eq h]
theorem rT5_n (h : ¬ zPk n f i = 46) : rT5 n f (i, false) = (i, true) := by unfold rT5; rw [zByte_ne h, rT6_b]
theorem rT7_y (h : zPk n f i = 47) : rT7 n f (i, false) = rT8 n f (i + 1, false) := by unfold rT7; rw [zByte_eq h]
theorem rT7_n (h : ¬ zPk n f i = 47) : rT7 n f (i, false) = (i, true) := by unfold rT7; rw [zByte_ne h, rT8_b]
theorem rT2_y (h : ¬ ((zDg n f i).1 < 1 ∨ 12 < (zDg n f i).1)) : rT2 n f (i, false) = rT3 n f ((zDg n f i).2, false) := by unfold rT2; rw [zNum_good h]
theorem rT2_n (h : (zDg n f i).1 < 1 ∨ 12 < (zDg n f i).1) : rT2 n f (i, false) = (i, true) := by unfold rT2; rw [zNum_bad h, rT3_b]
theorem rT4_y (h : ¬ ((zDg n f i).1 < 1 ∨ 5 < (zDg n f i).1)) : rT4 n f (i, false) = rT5 n f ((zDg n f i).2, false) := by unfold rT4; rw [zNum_good h]
theorem rT4_n (h : (zDg n f i).1 < 1 ∨ 5 < (zDg n f i).1) : rT4 n f (i, false) = (i, true) := by unfold rT4; rw [zNum_bad h, rT5_b]
theorem rT6_y (h : ¬ ((zDg n f i).1 < 0 ∨ 6 < (zDg n f i).1)) : rT6 n f (i, false) = rT7 n f ((zDg n f i).2, false) := by unfold rT6; rw [zNum_good h]
theorem rT6_n (h : (zDg n f i).1 < 0 ∨ 6 < (zDg n f i).1) : rT6 n f (i, false) = (i, true) := by unfold rT6; rw [zNum_bad h, rT7_b]
theorem rT8_y (h : ¬ ((zDg n f i).1 < 0 ∨ 1439 < (zDg n f i).1)) : rT8 n f (i, false) = ((zDg n f i).2, false) := by unfold rT8; rw [zNum_good h]
theorem rT8_n (h : (zDg n f i).1 < 0 ∨ 1439 < (zDg n f i).1) : rT8 n f (i, false) = (i, true) := by unfold rT8; rw [zNum_bad h]
theorem zRu_all {j1 j2 j3 : Nat} (a1 : zPk n f i = 77) (b1 : ¬ ((zDg n f (i + 1)).1 < 1 ∨ 12 < (zDg n f (i + 1)).1)) (e1 : (zDg n f (i + 1)).2 = j1) (a2 : zPk n f j1 = 46) (b2 : ¬ ((zDg n f (j1 + 1)).1 < 1 ∨ 5 < (zDg n f (j1 + 1)).1)) (e2 : (zDg n f (j1 + 1)).2 = j2)
    (a3 : zPk n f j2 = 46) (b3 : ¬ ((zDg n f (j2 + 1)).1 < 0 ∨ 6 < (zDg n f (j2 + 1)).1)) (e3 : (zDg n f (j2 + 1)).2 = j3) (a4 : zPk n f j3 = 47) (b4 : ¬ ((zDg n f (j3 + 1)).1 < 0 ∨ 1439 < (zDg n f (j3 + 1)).1)) :
    zRu n f (i, false) = (((zDg n f (i + 1)).1, (zDg n f (j1 + 1)).1, (zDg n f (j2 + 1)).1, (zDg n f (j3 + 1)).1), ((zDg n f (j3 + 1)).2, false)) := by
  unfold zRu
  simp only
  rw [zByte_eq a1, zNum_good b1]
  simp only
  rw [e1, zByte_eq a2, zNum_good b2]
  simp only
  rw [e2, zByte_eq a3, zNum_good b3]
  simp only
  rw [e3, zByte_eq a4, zNum_good b4]
end RT
theorem bI_vnar (b : Bool) : vp_nar FieldType.boolean (iI (bI b)) = iI (bI b) := by cases b <;> decide
