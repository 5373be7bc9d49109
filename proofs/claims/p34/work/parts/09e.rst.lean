def ea1 (r : Nat → Int32) (i s k : Nat) : Nat → Int32 :=
  zup (zup (zup r (221 + 20 * i + 5 + 5 * s + 0) (r (221 + 20 * i + 5 + 5 * s + 0) - lss (nd k s) (r (221 + 20 * i + 5 + 5 * s + 0) - r (221 + 20 * i + 5 + 5 * s + 1))))
    (221 + 20 * i + 5 + 5 * s + 2) (r (221 + 20 * i + 5 + 5 * s + 2) + lss (nd k s) (r (221 + 20 * i + 5 + 5 * s + 0) - r (221 + 20 * i + 5 + 5 * s + 1))))
    (221 + 20 * i + 5 + 5 * s + 3) (r (221 + 20 * i + 5 + 5 * s + 3) + (nd k s - lss (nd k s) (r (221 + 20 * i + 5 + 5 * s + 0) - r (221 + 20 * i + 5 + 5 * s + 1))))
theorem kO_congr {r r' : Nat → Int32} {x : Int32} {n : Nat} (h : ∀ k, k < n → r (281 + 7 * k + 1) = r' (281 + 7 * k + 1)) : kO r x n = kO r' x n := ct_iff fun k hk => by rw [h k hk]
theorem ea1_at {r : Nat → Int32} {i s k j : Nat} (h : j < 221 + 20 * i + 5 + 5 * s ∨ 221 + 20 * i + 5 + 5 * s + 5 ≤ j) : ea1 r i s k j = r j := by
  unfold ea1
  simp (disch := omega) only [zup_ne]
def eaF (r : Nat → Int32) (i k : Nat) : Nat → Int32 := ea1 (ea1 (ea1 r i 0 k) i 1 k) i 2 k
theorem kO_ea1 (r : Nat → Int32) (i s k : Nat) (hi : i < 3) (hs : s < 3) (x : Int32) (n : Nat) : kO (ea1 r i s k) x n = kO r x n := kO_congr fun j hj => ea1_at (by omega)
/-- what a keeper is reckoned -/
def rkF (r : Nat → Int32) (k : Nat) : Nat → Int32 :=
  if r (281 + 7 * k + 1) = -9 then
    if nI 4 ≤ r (281 + 7 * k + 2) then zup (zup r (281 + 7 * k + 2) (r (281 + 7 * k + 2) - nI 4)) (281 + 7 * k + 5) (r (281 + 7 * k + 5) + nI 1)
    else zup r (281 + 7 * k + 6) (r (281 + 7 * k + 6) + nI 1)
  else zup (zup (zup r (281 + 7 * k + 3) (r (281 + 7 * k + 3) + nI 1)) (281 + 7 * k + 4) (r (281 + 7 * k + 4) + r (221 + 20 * ixx (r (281 + 7 * k + 1)) + 4)))
    (281 + 7 * k + 2) (r (281 + 7 * k + 2) + (if r (281 + 7 * k + 0) = 0 then nI 0 else r (281 + 7 * k + 0) + nI 1) * (nI 1 + r (221 + 20 * ixx (r (281 + 7 * k + 1)) + 4)))
theorem i32_sub0 (x : Int32) : x - nI 0 = x := Int32.sub_zero x
