def inN (x : Int32) (n : Nat) : Bool := decide (0 ≤ x.toInt ∧ x.toInt < n)
theorem inN_def {x : Int32} {n : Nat} : (inN x n = true) = (0 ≤ x.toInt ∧ x.toInt < n) := by unfold inN; rw [decide_eq_true_eq]
theorem inN_iff {x : Int32} {n : Nat} (hn : n < 2147483648) : inN x n = true ↔ ∃ i, i < n ∧ x = nI i := by
  rw [inN_def]
  constructor
  · rintro ⟨h1, h2⟩
    obtain ⟨j, hj, e⟩ := i32of (n := n) h1 (by omega) hn
    refine ⟨j, ?_, e⟩
    rw [e, nIn (by omega)] at h2
    omega
  · rintro ⟨i, hi, rfl⟩
    rw [nIn (by omega)]
    omega
theorem in0 {x : Int32} {k : Nat} (hk : k < 2147483647) : (nI 0 ≤ x ∧ x ≤ nI k) = (inN x (k + 1) = true) := by
  rw [inN_def]
  rw [i32le, i32le, nIn (by omega), nIn (by omega)]
  apply propext; omega
theorem in1 {x : Int32} {k : Nat} (hk : k < 2147483647) : (nI 0 ≤ x ∧ x ≤ nI k - nI 1) = (inN x k = true) := by
  rw [inN_def]
  rw [i32le, i32le, nIn (by omega)]
  cases k with
  | zero => rw [show (nI 0 - nI 1).toInt = -1 by decide]; apply propext; omega
  | succ k => rw [pk_sub (by omega), nIn (by omega)]; apply propext; omega
theorem inN_nI {i n : Nat} (h : i < 2147483648) : (inN (nI i) n = true) = (i < n) := by
  rw [inN_def]
  rw [nIn (by omega)]
  apply propext; omega
theorem inN_m9 {n : Nat} : (inN (-9) n = true) = False := by
  rw [inN_def, i32_m9]; simp
theorem zb_in0 {x : Int32} {k : Nat} (hk : k < 2147483647) : zb (nI 0 ≤ x ∧ x ≤ nI k) = zb (inN x (k + 1)) := zb_iff (iff_of_eq (in0 hk))
theorem zb_in1 {x : Int32} {k : Nat} (hk : k < 2147483647) : zb (nI 0 ≤ x ∧ x ≤ nI k - nI 1) = zb (inN x k) := zb_iff (iff_of_eq (in1 hk))
/-! putting a state by -/
def svF (F : Nat → Nat → Int32) (s : Nat) : Nat → Int32 := if s = 5 then va_cpy (F 1) (va_cpy (F 4) (F 4) 1301 0 5204) 0 5204 1301 else va_cpy (F 1) (F 4) 0 (1301 * s) 1301
def svN (s : Nat) : Nat := if s = 5 then 5 else s + 1
def actF (F : Nat → Nat → Int32) (s : Nat) : Nat → Nat → Int32 := zup (zup F 4 (svF F s)) 0 (zup (F 0) 5 (nI (svN s)))
