def oKeep (f : Nat → Int32) (nr : Nat) (i s x : Int32) : Int32 × Option (Nat → Int32) := if (inN i nr ∧ inN s 3) ∧ inN x 1000 then (if x ≤ f (221 + 20 * ixx i + 5 + 5 * ixx s + 0) then (f (221 + 20 * ixx i + 5 + 5 * ixx s + 1), some (zup f (221 + 20 * ixx i + 5 + 5 * ixx s + 1) x)) else (-2, none)) else (-1, none)
def oCan (f : Nat → Int32) (n : Nat) (t : Int32) : Int32 × Option (Nat → Int32) := if inN t n then (nI (n - 1), some (rmT f (ixx t) n)) else (-1, none)
def oExc (f : Nat → Int32) (n : Nat) (a b : Int32) : Int32 × Option (Nat → Int32) :=
  if inN a n ∧ inN b n ∧ ¬ a = b then
    (if ((f (337 + 8 * ixx a + 0) = 0 ∧ f (337 + 8 * ixx b + 0) = 0) ∧ ¬ f (337 + 8 * ixx a + 3) = f (337 + 8 * ixx b + 4)) ∧ ¬ f (337 + 8 * ixx b + 3) = f (337 + 8 * ixx a + 4)
     then (f (337 + 8 * ixx b + 4), some (zup (zup f (337 + 8 * ixx a + 4) (f (337 + 8 * ixx b + 4))) (337 + 8 * ixx b + 4) (f (337 + 8 * ixx a + 4))))
     else (-2, none)) else (-1, none)
