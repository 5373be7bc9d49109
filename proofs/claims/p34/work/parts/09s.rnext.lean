theorem z00lt : ((0 : Int32) < 0) = False := eq_false (by decide)
theorem z00le : ((0 : Int32) ≤ 0) = True := eq_true (by decide)
theorem o1lt : ((0 : Int32) < nI 1) = True := eq_true (by decide)
theorem o1le : (nI 1 ≤ 0) = False := eq_false (by decide)
def noB (f : Nat → Int32) (k : Nat) (best : Int32) : Int32 := if best = -9 then nI k else
  if f (281 + 7 * k + 3) - f (281 + 7 * ixx best + 3) < 0 ∨ (f (281 + 7 * k + 3) - f (281 + 7 * ixx best + 3) = 0 ∧ f (281 + 7 * ixx best + 0) < f (281 + 7 * k + 0)) then nI k else best
def nOu (f : Nat → Int32) (n : Nat) : Nat → Nat → Int32 → Int32
  | 0, _, best => best
  | d + 1, k, best => nOu f n d (k + 1) (if f (281 + 7 * k + 1) = -9 ∧ ¬ 0 < hT_ f (nI k) 4 n then noB f k best else best)
def niB (f : Nat → Int32) (k : Nat) (best : Int32) : Int32 := if best = -9 then nI k else
  if 0 < f (281 + 7 * k + 2) - f (281 + 7 * ixx best + 2) ∨ (f (281 + 7 * k + 2) - f (281 + 7 * ixx best + 2) = 0 ∧ f (281 + 7 * ixx best + 4) < f (281 + 7 * k + 4)) then nI k else best
def nIn_ (f : Nat → Int32) (n : Nat) : Nat → Nat → Int32 → Int32
  | 0, _, best => best
  | d + 1, k, best => nIn_ f n d (k + 1) (if ¬ f (281 + 7 * k + 1) = -9 ∧ ¬ 0 < hT_ f (nI k) 3 n then niB f k best else best)

