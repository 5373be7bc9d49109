def oTide (f : Nat → Int32) (x y : Int32) : Int32 × Option (Nat → Int32) := if inN x 14 ∧ inN y 100 then (f (7 + ixx x), some (zup f (7 + ixx x) y)) else (-1, none)
def oSwell (f : Nat → Int32) (td : Nat) (d x : Int32) : Int32 × Option (Nat → Int32) := if 0 ≤ swC td d x then (f (21 + ixx d), some (zup f (21 + ixx d) x)) else (swC td d x, none)
theorem swC_d {td : Nat} {d x : Int32} (h : 0 ≤ swC td d x) : ∃ j, j < 200 ∧ d = nI j := by
  unfold swC at h
  by_cases hd : inN d 200
  · exact (inN_iff (by omega)).mp hd
  · simp only [eq_false hd, false_and, if_false, m1le] at h
def oRock (f : Nat → Int32) (nr : Nat) (a b c : Int32) : Int32 × Option (Nat → Int32) := if 0 ≤ rkC nr a b c then (nI nr, some (rkN f nr a b c)) else (rkC nr a b c, none)
theorem rkC_n {nr : Nat} {a b c : Int32} (h : 0 ≤ rkC nr a b c) : nr ≠ 3 := by
  unfold rkC at h
  rintro rfl
  split at h
  · simp only [if_true, m3le] at h
  · simp only [m1le] at h
theorem cmC_n {nk : Nat} {a : Int32} (h : 0 ≤ cmC nk a) : nk ≠ 8 := by
  unfold cmC at h
  rintro rfl
  split at h
  · simp only [if_true, m3le] at h
  · simp only [m1le] at h
theorem tnC_n {p : Prop} [Decidable p] {n td : Nat} {d : Int32} (h : 0 ≤ tnC p n td d) : n ≠ 12 ∧ p ∧ inN d 200 = true ∧ ¬ d < nI td := by
  unfold tnC at h
  by_cases hp : p ∧ inN d 200 = true
  · rw [if_pos hp] at h
    by_cases hd : d < nI td
    · rw [if_pos hd, m2le] at h; exact h.elim
    · rw [if_neg hd] at h
      by_cases hn : n = 12
      · rw [if_pos hn, m3le] at h; exact h.elim
      · exact ⟨hn, hp.1, hp.2, hd⟩
  · rw [if_neg hp, m1le] at h; exact h.elim
def oCome (f : Nat → Int32) (nk : Nat) (a : Int32) : Int32 × Option (Nat → Int32) := if 0 ≤ cmC nk a then (nI nk, some (kpN f nk a)) else (cmC nk a, none)
def oRel (f : Nat → Int32) (nr nk n td : Nat) (a d c g : Int32) : Int32 × Option (Nat → Int32) := if 0 ≤ tnC (rlP nr nk a c g) n td d then (nI (n + 1), some (plN f n (nI 0) a d c g (-9) (-9))) else (tnC (rlP nr nk a c g) n td d, none)
def oChg (f : Nat → Int32) (nr nk n td : Nat) (a d k o : Int32) : Int32 × Option (Nat → Int32) := if 0 ≤ tnC (chP nr nk a k o) n td d then (nI (n + 1), some (plN f n (nI 1) a d (if o = 0 then k else -9) (if o = nI 1 then k else -9) (-9) (-9))) else (tnC (chP nr nk a k o) n td d, none)
def oBri (f : Nat → Int32) (nr n td : Nat) (a d s x : Int32) : Int32 × Option (Nat → Int32) := if 0 ≤ tnC (brP nr a s x) n td d then (nI (n + 1), some (plN f n (nI 2) a d (-9) (-9) s x)) else (tnC (brP nr a s x) n td d, none)
