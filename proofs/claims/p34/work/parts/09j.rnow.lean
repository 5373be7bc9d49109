def clr (r : Nat → Int32) (at_ w : Nat) : Nat → Int32 := fun k => if at_ ≤ k ∧ k < at_ + w then nI 0 else r k
theorem clr_0 (r : Nat → Int32) (a : Nat) : clr r a 0 = r := funext fun k => if_neg (by omega)
theorem clr_s (r : Nat → Int32) (a w : Nat) : zup (clr r a w) (a + w) (nI 0) = clr r a (w + 1) := by
  funext k; unfold zup clr; grind
theorem clr_at {r : Nat → Int32} {a w k : Nat} (h : k < a ∨ a + w ≤ k) : clr r a w k = r k := if_neg (by omega)
theorem clr_in {r : Nat → Int32} {a w k : Nat} (h : a ≤ k ∧ k < a + w) : clr r a w k = nI 0 := if_pos h
def rkN (r : Nat → Int32) (nr : Nat) (a b c : Int32) : Nat → Int32 := zup (zup (zup (zup (clr r (221 + 20 * nr) 20) (221 + 20 * nr + 0) a) (221 + 20 * nr + 1) b) (221 + 20 * nr + 2) c) 1 (nI (nr + 1))
def kpN (r : Nat → Int32) (nk : Nat) (a : Int32) : Nat → Int32 := zup (zup (clr (zup r 2 (nI (nk + 1))) (281 + 7 * nk) 7) (281 + 7 * nk + 0) a) (281 + 7 * nk + 1) (-9)
def plN (r : Nat → Int32) (n : Nat) (kind a d c g s x : Int32) : Nat → Int32 :=
  zup (zup (zup (zup (zup (zup (zup (zup (zup r 3 (nI (n + 1))) (337 + 8 * n + 0) kind) (337 + 8 * n + 1) a) (337 + 8 * n + 2) d) (337 + 8 * n + 3) c) (337 + 8 * n + 4) g) (337 + 8 * n + 5) s) (337 + 8 * n + 6) x) (337 + 8 * n + 7) (nI 0)
