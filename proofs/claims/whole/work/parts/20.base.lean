/-! pure helps -/
theorem amLong_I {x : Int32} : amLong (some (vI x)) = false := rfl
theorem amLong_R {c i : Nat} : amLong (some (vR c i)) = false := rfl
theorem amLong_N : amLong none = false := rfl
theorem amLong_L {x : Int64} : amLong (some (vL x)) = true := rfl
/-- f k + f (k+1) + .. , so many -/
def sumN (f : Nat → Int32) : Nat → Nat → Int32
  | _, 0 => 0
  | k, n + 1 => f k + sumN f (k + 1) n
theorem inb_nI {k n : Nat} (h : k < n) (hn : n < 2 ^ 31) : inb (nI k) n := by
  unfold inb
  rw [nI_toInt (by omega)]
  omega
theorem cl_nI {k : Nat} (h : k < 2 ^ 31) : (nI k).toNatClampNeg = k := nI_clamp h
theorem nI_s (k : Nat) : nI k + 1 = nI (k + 1) := nI_1 k
theorem ok_104 {X i : Nat} {j : Int32} : okR X 104 i j ↔ i < 13 ∧ inb j 9 := okR_iff (by decide) (by decide) rfl
theorem i_0 : (0 : Int32) = nI 0 := rfl
