theorem ct_zero {p : Nat → Prop} [DecidablePred p] {n : Nat} : 0 < ct p n ↔ ∃ k, k < n ∧ p k := by
  induction n with
  | zero => unfold ct; constructor
            · intro h; omega
            · rintro ⟨k, hk, -⟩; omega
  | succ n ih =>
    unfold ct
    constructor
    · intro h
      by_cases hp : p n
      · exact ⟨n, by omega, hp⟩
      · rw [if_neg hp] at h
        obtain ⟨k, h1, h2⟩ := ih.mp h
        exact ⟨k, by omega, h2⟩
    · rintro ⟨k, h1, h2⟩
      by_cases hk : k = n
      · subst hk; rw [if_pos h2]; omega
      · have := ih.mpr ⟨k, by omega, h2⟩
        omega
theorem nI_neg1 {j : Nat} : nI j + -1 = nI j - nI 1 := by
  rw [Int32.sub_eq_add_neg]; rfl
theorem i32k {x : Int32} {k : Nat} (hk : k < 2147483648) (h : x.toInt = (k : Int)) : x = nI k := by rw [i32eq, nIn hk]; exact h
def qCnt (f : Nat → Int32) (nk s L : Nat) (x : Int32) : Int32 :=
  if x.toInt = 0 then f 0 else if x.toInt = 1 then f 1 else if x.toInt = 2 then f 2 else if x.toInt = 3 then f 3 else if x.toInt = 4 then nI (kO f (-9) nk)
  else if x.toInt = 5 then f 4 else if x.toInt = 6 then f 5 else if x.toInt = 7 then f 6 else if x.toInt = 8 then f 433 + f 867 else if x.toInt = 9 then nI s else if x.toInt = 10 then nI L else -1
def tO (f : Nat → Int32) (x : Int32) (n : Nat) : Nat := ct (fun k => f (337 + 8 * k + 1) = x) n
def hT_ (f : Nat → Int32) (x : Int32) (p n : Nat) : Nat := ct (fun k => f (337 + 8 * k + p) = x) n
def fO (f : Nat → Int32) (x : Int32) (i d : Nat) : Int32 := fst9 (fun k => f (281 + 7 * k + 1) = x) i d
