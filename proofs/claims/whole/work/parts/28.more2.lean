/-! Twenty bytes; where a text ends. -/
def ap20 (f : Nat → Int32) (n : Nat) (a b c d e : Int32) : Nat → Int32 := ap4 (ap4 (ap4 (ap4 (ap4 f n a) (n + 4) b) (n + 8) c) (n + 12) d) (n + 16) e
theorem zEnd_b (n : Nat) (f : Nat → Int32) : (zEnd n f).1 ≤ n := by
  unfold zEnd
  split
  · exact zR2_b n f
  · exact zS2_b n f
theorem zPlace_ok {n : Nat} {f : Nat → Int32} (h : zBad n f = false) : zPlace n f = -1 := by unfold zPlace; rw [h]; rfl
theorem zPlace_bad {n : Nat} {f : Nat → Int32} (h : zBad n f = true) : zPlace n f = ((zEnd n f).1 : Int) := by unfold zPlace; rw [h]; rfl
