theorem psC_d {td : Nat} {d : Int32} (htd : td < 200) (h : 0 ≤ psC td d) : ∃ j, 1 ≤ j ∧ j ≤ 60 ∧ d = nI j ∧ td + j ≤ 199 := by
  unfold psC at h
  by_cases hd : nI 1 ≤ d ∧ d ≤ nI 60
  · obtain ⟨h1, h2⟩ := hd
    rw [i32le, nIn (by omega)] at h1 h2
    obtain ⟨j, hj, e⟩ := i32of (x := d) (n := 60) (by omega) (by omega) (by omega)
    subst e
    rw [nIn (by omega)] at h1 h2
    rw [if_pos ⟨by rw [i32le, nIn (by omega), nIn (by omega)]; omega, by rw [i32le, nIn (by omega), nIn (by omega)]; omega⟩, nI_add] at h
    by_cases hl : nI 199 < nI (td + j)
    · rw [if_pos hl, m2le] at h; exact h.elim
    · rw [i32lt, nIn (by omega), nIn (by omega)] at hl
      exact ⟨j, by omega, by omega, rfl, by omega⟩
  · rw [if_neg hd, m1le] at h; exact h.elim
def oPass (f : Nat → Int32) (nr nk td : Nat) (d : Int32) : Int32 × Option (Nat → Int32) := if 0 ≤ psC td d then ((pN nr nk (ixx d) f (nI 0)).2, some (pN nr nk (ixx d) f (nI 0)).1) else (psC td d, none)
def tkF (f : Nat → Int32) (j : Nat) : Nat → Int32 := va_cpy f (zup f (433 + 434 * j) (nI 1)) 0 (433 + 434 * j + 1) 433
def oTake (f : Nat → Int32) (x : Int32) : Int32 × Option (Nat → Int32) := if inN x 2 then (f 0, some (tkF f (ixx x))) else (-1, none)
def oRes (f : Nat → Int32) (x : Int32) : Int32 × Option (Nat → Int32) := if inN x 2 then (if f (433 + 434 * ixx x) = 0 then (-2, none) else (f (433 + 434 * ixx x + 1), some (va_cpy f f (433 + 434 * ixx x + 1) 0 433))) else (-1, none)
