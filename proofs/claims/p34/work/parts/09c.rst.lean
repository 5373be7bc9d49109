def ixx (x : Int32) : Nat := x.toNatClampNeg
theorem ixx_nI {n : Nat} (h : n < 2147483648) : ixx (nI n) = n := nI_clamp h
abbrev cbd (r : Nat → Int32) (t n : Nat) : Prop := (r (337 + 8 * t + 3) = -9 ∨ r (281 + 7 * ixx (r (337 + 8 * t + 3)) + 1) = r (337 + 8 * t + 1)) ∧ (r (337 + 8 * t + 4) = -9 ∨ (r (281 + 7 * ixx (r (337 + 8 * t + 4)) + 1) = -9 ∧ 0 < r (221 + 20 * ixx (r (337 + 8 * t + 1)) + 2) - nI (kO r (r (337 + 8 * t + 1)) n) + (if r (337 + 8 * t + 3) = -9 then nI 0 else nI 1)))
