/-! how many are missed is no more than the turns -/
theorem gT_mi (nk : Nat) (d : Nat) : ∀ (r : Nat → Int32) (t n a : Nat) (tg : Int32), ∃ c, c ≤ d ∧ (gT nk d r t n (nI a) tg).2.1 = nI (a + c) := by
  induction d with
  | zero => intro r t n a tg; exact ⟨0, Nat.le_refl 0, rfl⟩
  | succ d ih =>
    intro r t n a tg
    unfold gT
    split
    · obtain ⟨c, h1, h2⟩ := ih r (t + 1) n a tg; exact ⟨c, by omega, h2⟩
    · split
      · rw [nI_add]
        obtain ⟨c, h1, h2⟩ := ih (zup (zup r (337 + 8 * t + 2) (r 0 + nI 1)) (221 + 20 * ixx (r (337 + 8 * t + 1)) + 4) (nI 1)) (t + 1) n (a + 1) tg
        exact ⟨c + 1, by omega, by rw [h2]; congr 1; omega⟩
      · split
        · obtain ⟨c, h1, h2⟩ := ih (rmT (zup (dT r t) 4 (dT r t 4 + nI 1)) t n) t (n - 1) a (tg ||| (nI 1 <<< (r (337 + 8 * t + 7) &&& 31))); exact ⟨c, by omega, h2⟩
        · obtain ⟨c, h1, h2⟩ := ih (rmT (zup r 5 (r 5 + nI 1)) t n) t (n - 1) a tg; exact ⟨c, by omega, h2⟩
theorem pD_mi (r : Nat → Int32) (nr nk n : Nat) : ∃ c, c ≤ n ∧ (pD r nr nk n).2.1 = nI c := by
  obtain ⟨c, h1, h2⟩ := gT_mi nk n (zD nr r 0) 0 n 0 (nI 0)
  exact ⟨c, h1, by show (gT nk n (zD nr r 0) 0 n (nI 0) (nI 0)).2.1 = nI c; rw [h2, Nat.zero_add]⟩
theorem pN_mi {nr nk : Nat} (d : Nat) : ∀ (r : Nat → Int32) (n td a : Nat), RI r nr nk n td → td + d ≤ 199 → ∃ c, c ≤ 12 * d ∧ (pN nr nk d r (nI a)).2 = nI (a + c) := by
  induction d with
  | zero => intro r n td a _ _; exact ⟨0, by omega, rfl⟩
  | succ d ih =>
    intro r n td a hI htd
    obtain ⟨i1, i2, i3, i0, hb, -⟩ := id hI
    obtain ⟨n', hn', hI'⟩ := pD_keep hI (by omega)
    obtain ⟨c, h1, h2⟩ := pD_mi r nr nk n
    unfold pN
    rw [i3, ixx_nI (by omega), h2, nI_add]
    obtain ⟨c', h3, h4⟩ := ih _ n' (td + 1) (a + c) hI' (by omega)
    exact ⟨c + c', by omega, by rw [h4, Nat.add_assoc]⟩
theorem pN_keep {nr nk : Nat} (d : Nat) : ∀ (r : Nat → Int32) (n td : Nat) (mi : Int32), RI r nr nk n td → td + d ≤ 199 → ∃ n', n' ≤ n ∧ RI (pN nr nk d r mi).1 nr nk n' (td + d) := by
  induction d with
  | zero => intro r n td mi hI _; exact ⟨n, Nat.le_refl n, hI⟩
  | succ d ih =>
    intro r n td mi hI htd
    obtain ⟨i1, i2, i3, i0, hb, -⟩ := id hI
    obtain ⟨n', hn', hI'⟩ := pD_keep hI (by omega)
    unfold pN
    rw [i3, ixx_nI (by omega)]
    obtain ⟨n2, h3, h4⟩ := ih _ n' (td + 1) (mi + (pD r nr nk n).2.1) hI' (by omega)
    exact ⟨n2, by omega, by rw [show td + (d + 1) = td + 1 + d by omega]; exact h4⟩
/-! forecasts pass their days in a copy -/
def tgF : Nat → (Nat → Int32) → Nat → (Nat → Int32)
  | 0, r, _ => r
  | d + 1, r, i => tgF d (zup r (337 + 8 * i + 7) (nI i)) (i + 1)
theorem tgF_at {d i k : Nat} {r : Nat → Int32} (h : ∀ u, i ≤ u → u < i + d → k ≠ 337 + 8 * u + 7) : tgF d r i k = r k := by
  induction d generalizing r i with
  | zero => rfl
  | succ d ih => unfold tgF; rw [ih (fun u h1 h2 => h u (by omega) (by omega)), zup_ne (h i (by omega) (by omega))]
theorem tgF_in {d i u : Nat} {r : Nat → Int32} (h : i ≤ u) (h2 : u < i + d) : tgF d r i (337 + 8 * u + 7) = nI u := by
  induction d generalizing r i with
  | zero => omega
  | succ d ih =>
    unfold tgF
    by_cases e : u = i
    · subst e; rw [tgF_at (by omega), zup_eq rfl]
    · exact ih (by omega) (by omega)
def wF (f w : Nat → Int32) (n : Nat) : Nat → Int32 := tgF n (va_cpy f w 0 0 433) 0
theorem wF_at {f w : Nat → Int32} {n k : Nat} (hk : k < 433) (h : ∀ u, u < n → k ≠ 337 + 8 * u + 7) : wF f w n k = f k := by
  unfold wF; rw [tgF_at (fun u _ h2 => h u (by omega)), pk_cpy_in (by omega) (by omega), Nat.zero_add, Nat.sub_zero]
theorem RI_wF {f w : Nat → Int32} {nr nk n td : Nat} (hI : RI f nr nk n td) : RI (wF f w n) nr nk n td := by
  obtain ⟨i1, i2, i3, i0, hb, hT, hK⟩ := hI
  refine ⟨by rw [wF_at (by omega) (by omega)]; exact i1, by rw [wF_at (by omega) (by omega)]; exact i2, by rw [wF_at (by omega) (by omega)]; exact i3, by rw [wF_at (by omega) (by omega)]; exact i0, hb, fun u hu => ?_, KP_of (fun k hk => wF_at (by omega) (by omega)) hK⟩
  have hT' := hT u hu
  unfold TW
  rw [wF_at (k := 337 + 8 * u + 1) (by omega) (by omega), wF_at (k := 337 + 8 * u + 2) (by omega) (by omega), wF_at (k := 337 + 8 * u + 3) (by omega) (by omega), wF_at (k := 337 + 8 * u + 4) (by omega) (by omega), wF_at (k := 337 + 8 * u + 0) (by omega) (by omega), wF_at (k := 337 + 8 * u + 5) (by omega) (by omega)]
  exact hT'
theorem SME_w {F : Nat → Nat → Int32} {R : Nat → Int32} {T : Int32} (hz : F 0 0 = nI 0) : SME F (zup (zup F 3 R) 0 (zup (F 0) 9 T)) := by
  refine ⟨?_, ?_, ?_, ?_, ?_, ?_⟩ <;> simp (disch := omega) only [zup_eq, zup_ne, hz]
def dO (nr nk : Nat) (t : Nat) : Nat → (Nat → Int32) → Int32
  | 0, _ => -9
  | d + 1, r => if ((pD r nr nk (ixx (r 3))).2.2 >>> (nI t &&& 31)) &&& nI 1 = nI 1 then (pD r nr nk (ixx (r 3))).1 0 - nI 1 else dO nr nk t d (pD r nr nk (ixx (r 3))).1
def qDon (f w : Nat → Int32) (nr nk n td : Nat) (t : Int32) : Int32 := if inN t n then dO nr nk (ixx t) (199 - td) (wF f w n) else -1
def qLat (f w : Nat → Int32) (nr nk n td : Nat) (k d x : Int32) : Int32 := if inN k nk ∧ inN d 61 ∧ inN x 7 then (if nI (td + ixx d) ≤ nI 199 then (pN nr nk (ixx d) (wF f w n) (nI 0)).1 (281 + 7 * ixx k + ixx x) else -2) else -1
