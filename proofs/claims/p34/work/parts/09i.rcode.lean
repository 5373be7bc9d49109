def RI (r : Nat → Int32) (nr nk n td : Nat) : Prop := r 1 = nI nr ∧ r 2 = nI nk ∧ r 3 = nI n ∧ r 0 = nI td ∧ (td < 200 ∧ n ≤ 12 ∧ nr ≤ 3 ∧ nk ≤ 8) ∧ (∀ u, u < n → TW r u nr nk) ∧ KP r nr nk
theorem m1le : ((0 : Int32) ≤ -1) = False := eq_false (by decide)
theorem m2le : ((0 : Int32) ≤ -2) = False := eq_false (by decide)
theorem m3le : ((0 : Int32) ≤ -3) = False := eq_false (by decide)
theorem z0le : ((0 : Int32) ≤ nI 0) = True := eq_true (by decide)
theorem m1lt : ((-1 : Int32) < 0) = True := eq_true (by decide)
theorem m2lt : ((-2 : Int32) < 0) = True := eq_true (by decide)
theorem m3lt : ((-3 : Int32) < 0) = True := eq_true (by decide)
theorem z0lt : (nI 0 < 0) = False := eq_false (by decide)
theorem in0' {x : Int32} {k : Nat} (hk : k < 2147483647) : zb (nI 0 ≤ x ∧ x ≤ nI k) = zb (inN x (k + 1)) := zb_in0 hk
def swC (td : Nat) (d x : Int32) : Int32 := if inN d 200 ∧ inN x 10 then (if d < nI td then -2 else nI 0) else -1
def rkC (nr : Nat) (a b c : Int32) : Int32 := if inN a 100 ∧ inN b 10 ∧ (nI 1 ≤ c ∧ c ≤ nI 3) then (if nr = 3 then -3 else nI 0) else -1
def cmC (nk : Nat) (a : Int32) : Int32 := if inN a 3 then (if nk = 8 then -3 else nI 0) else -1
def tnC (p : Prop) [Decidable p] (n td : Nat) (d : Int32) : Int32 := if p ∧ inN d 200 then (if d < nI td then -2 else if n = 12 then -3 else nI 0) else -1
abbrev rlP (nr nk : Nat) (a c g : Int32) : Prop := inN a nr = true ∧ inN c nk = true ∧ inN g nk = true ∧ ¬ c = g
abbrev chP (nr nk : Nat) (a k o : Int32) : Prop := inN a nr = true ∧ inN k nk = true ∧ inN o 2 = true
abbrev brP (nr : Nat) (a s x : Int32) : Prop := (inN a nr = true ∧ inN s 3 = true) ∧ (nI 1 ≤ x ∧ x ≤ nI 300)
def psC (td : Nat) (d : Int32) : Int32 := if nI 1 ≤ d ∧ d ≤ nI 60 then (if nI 199 < nI td + d then -2 else nI 0) else -1
