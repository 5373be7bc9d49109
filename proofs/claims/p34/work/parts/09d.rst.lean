def lss (a b : Int32) : Int32 := if a < b then a else b
def dT (r : Nat → Int32) (t : Nat) : Nat → Int32 :=
  if r (337 + 8 * t + 0) = nI 2 then
    zup (zup r (221 + 20 * ixx (r (337 + 8 * t + 1)) + 5 + 5 * ixx (r (337 + 8 * t + 5)) + 0) (r (221 + 20 * ixx (r (337 + 8 * t + 1)) + 5 + 5 * ixx (r (337 + 8 * t + 5)) + 0) + lss (r (337 + 8 * t + 6)) (nI 999 - r (221 + 20 * ixx (r (337 + 8 * t + 1)) + 5 + 5 * ixx (r (337 + 8 * t + 5)) + 0)))) (221 + 20 * ixx (r (337 + 8 * t + 1)) + 5 + 5 * ixx (r (337 + 8 * t + 5)) + 4) (r (221 + 20 * ixx (r (337 + 8 * t + 1)) + 5 + 5 * ixx (r (337 + 8 * t + 5)) + 4) + lss (r (337 + 8 * t + 6)) (nI 999 - r (221 + 20 * ixx (r (337 + 8 * t + 1)) + 5 + 5 * ixx (r (337 + 8 * t + 5)) + 0)))
  else if r (337 + 8 * t + 3) = -9 then (if r (337 + 8 * t + 4) = -9 then r else zup r (281 + 7 * ixx (r (337 + 8 * t + 4)) + 1) (r (337 + 8 * t + 1)))
  else if r (337 + 8 * t + 4) = -9 then zup r (281 + 7 * ixx (r (337 + 8 * t + 3)) + 1) (-9)
  else zup (zup r (281 + 7 * ixx (r (337 + 8 * t + 3)) + 1) (-9)) (281 + 7 * ixx (r (337 + 8 * t + 4)) + 1) (r (337 + 8 * t + 1))
/-- a turn's row is in order -/
def TW (r : Nat → Int32) (t nr nk : Nat) : Prop := (∃ i, i < nr ∧ r (337 + 8 * t + 1) = nI i) ∧ (∃ d, d < 200 ∧ r (337 + 8 * t + 2) = nI d) ∧ (r (337 + 8 * t + 3) = -9 ∨ ∃ k, k < nk ∧ r (337 + 8 * t + 3) = nI k) ∧ (r (337 + 8 * t + 4) = -9 ∨ ∃ k, k < nk ∧ r (337 + 8 * t + 4) = nI k) ∧ ((r (337 + 8 * t + 0) = nI 2 ∧ r (337 + 8 * t + 3) = -9 ∧ r (337 + 8 * t + 4) = -9 ∧ ∃ s, s < 3 ∧ r (337 + 8 * t + 5) = nI s) ∨ (r (337 + 8 * t + 0) ≠ nI 2 ∧ r (337 + 8 * t + 5) = -9))
