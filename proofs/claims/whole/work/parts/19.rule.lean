/-! The states on the way through a rule's text; a choice of rules. -/
def zU1 (n : Nat) (f : Nat → Int32) (z : Nat × Bool) : Nat × Bool := zByte n f 77 z
def zU2 (n : Nat) (f : Nat → Int32) (z : Nat × Bool) : Int × (Nat × Bool) := zNum n f 1 12 (zU1 n f z)
def zU3 (n : Nat) (f : Nat → Int32) (z : Nat × Bool) : Nat × Bool := zByte n f 46 (zU2 n f z).2
def zU4 (n : Nat) (f : Nat → Int32) (z : Nat × Bool) : Int × (Nat × Bool) := zNum n f 1 5 (zU3 n f z)
def zU5 (n : Nat) (f : Nat → Int32) (z : Nat × Bool) : Nat × Bool := zByte n f 46 (zU4 n f z).2
def zU6 (n : Nat) (f : Nat → Int32) (z : Nat × Bool) : Int × (Nat × Bool) := zNum n f 0 6 (zU5 n f z)
def zU7 (n : Nat) (f : Nat → Int32) (z : Nat × Bool) : Nat × Bool := zByte n f 47 (zU6 n f z).2
def zU8 (n : Nat) (f : Nat → Int32) (z : Nat × Bool) : Int × (Nat × Bool) := zNum n f 0 1439 (zU7 n f z)
theorem zRu_u (n : Nat) (f : Nat → Int32) (z : Nat × Bool) : zRu n f z = (((zU2 n f z).1, (zU4 n f z).1, (zU6 n f z).1, (zU8 n f z).1), (zU8 n f z).2) := rfl
section ZU
variable {n : Nat} {f : Nat → Int32} {z : Nat × Bool}
theorem zU1_b (h : z.1 ≤ n) : (zU1 n f z).1 ≤ n := (zByte_b (f := f) (c := 77) (by decide) h).2
theorem zU2_b (h : z.1 ≤ n) : (zU2 n f z).2.1 ≤ n := (zNum_b (f := f) (lo := 1) (hi := 12) (zU1_b h)).2.1
theorem zU3_b (h : z.1 ≤ n) : (zU3 n f z).1 ≤ n := (zByte_b (f := f) (c := 46) (by decide) (zU2_b h)).2
theorem zU4_b (h : z.1 ≤ n) : (zU4 n f z).2.1 ≤ n := (zNum_b (f := f) (lo := 1) (hi := 5) (zU3_b h)).2.1
theorem zU5_b (h : z.1 ≤ n) : (zU5 n f z).1 ≤ n := (zByte_b (f := f) (c := 46) (by decide) (zU4_b h)).2
theorem zU6_b (h : z.1 ≤ n) : (zU6 n f z).2.1 ≤ n := (zNum_b (f := f) (lo := 0) (hi := 6) (zU5_b h)).2.1
theorem zU7_b (h : z.1 ≤ n) : (zU7 n f z).1 ≤ n := (zByte_b (f := f) (c := 47) (by decide) (zU6_b h)).2
theorem zU8_b (h : z.1 ≤ n) : (zU8 n f z).2.1 ≤ n := (zNum_b (f := f) (lo := 0) (hi := 1439) (zU7_b h)).2.1
theorem zRu_b (h : z.1 ≤ n) : (zRu n f z).2.1 ≤ n := zU8_b h
end ZU
theorem zS2_b (n : Nat) (f : Nat → Int32) : (zS2 n f).2.1 ≤ n := by
  unfold zS2
  exact (zNum_b (f := f) (lo := 0) (hi := 840) (zByte_b (f := f) (c := if zPk n f 0 = 45 then 45 else 43) (z := (0, false)) (by split <;> decide) (Nat.zero_le _)).2).2.1
theorem zS4_b (n : Nat) (f : Nat → Int32) : (zS4 n f).2.1 ≤ n := (zNum_b (f := f) (lo := 1) (hi := 120) (zBl_b (f := f) (zS2_b n f)).2).2.1
theorem zR1_b (n : Nat) (f : Nat → Int32) : (zR1 n f).2.1 ≤ n := zRu_b (zBl_b (f := f) (zS4_b n f)).2
theorem zR2_b (n : Nat) (f : Nat → Int32) : (zR2 n f).2.1 ≤ n := zRu_b (zBl_b (f := f) (zR1_b n f)).2
def rsel (c : Bool) (x y : RU) : RU := if c then x else y
