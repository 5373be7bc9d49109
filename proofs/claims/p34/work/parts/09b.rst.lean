abbrev cL (c : Nat → Int32) (i d : Nat) : Prop := c (221 + 20 * i + 0) ≤ c (7 + d % 14) ∧ c (21 + d) ≤ c (221 + 20 * i + 1)
def kO (c : Nat → Int32) (x : Int32) (n : Nat) : Nat := ct (fun k => c (281 + 7 * k + 1) = x) n
def AR (h : zH) (a : Nat) : Prop := zk h a = 20 ∧ 433 ≤ zn h a ∧ zn h a < 2000
theorem kO_le (r : Nat → Int32) (x : Int32) (n : Nat) : kO r x n ≤ n := ct_le _ n
def nd (k s : Nat) : Int32 := if s = 0 then nI (3 * k) else if s = 2 then nI (2 * k) else if 0 < k then nI 5 else nI 0
def rmT (r : Nat → Int32) (t n : Nat) : Nat → Int32 := fun k => if k = 3 then nI (n - 1) else if 337 + 8 * t ≤ k ∧ k < 337 + 8 * (n - 1) then r (k + 8) else r k
