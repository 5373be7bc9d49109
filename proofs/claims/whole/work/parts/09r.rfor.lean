/-! how many are missed is no more than the turns -/
theorem gT_mi (nk : Nat) (d : Nat) : ∀ (r : Nat → Int32) (t n a : Nat) (tg : Int32), ∃ c, c ≤ d ∧ (gT nk d r t n (nI a) tg).2.1 = nI (a + c) := by
  induction d with
  | zero => intro r t n a tg; exact ⟨0, Nat.le_refl 0, rfl⟩
  | succ d ih =>
    intro r t n a tg
    unfold gT
    split
    · obtain ⟨c, h1, h2⟩ := ih r (t + 1) n a tg; exact ⟨c, by omega, h2⟩
    · split
      · rw [nI_add]
        obtain ⟨c, h1, h2⟩ := ih (zup (zup r (337 + 8 * t + 2) (r 0 + nI 1)) (221 + 20 * ixx (r (337 + 8 * t + 1)) + 4) (nI 1)) (t + 1) n (a + 1) tg
        exact ⟨c + 1, by omega, by rw [h2]; congr 1; omega⟩
      · split
        · obtain ⟨c, h1, h2⟩ := ih (rmT (zup (dT r t) 4 (dT r t 4 + nI 1)) t n) t (n - 1) a (tg ||| (nI 1 <<< (r (337 + 8 * t + 7) &&& 31))); exact ⟨c, by omega, h2⟩
        · obtain ⟨c, h1, h2⟩ := ih (rmT (zup r 5 (r 5 + nI 1)) t n) t (n - 1) a tg; exact ⟨c, by omega, h2⟩
theorem pD_mi (r : Nat → Int32) (nr nk n : Nat) : ∃ c, c ≤ n ∧ (pD r nr nk n).2.1 = nI c := by
  obtain ⟨c, h1, h2⟩ := gT_mi nk n (zD nr r 0) 0 n 0 (nI 0)
  exact ⟨c, h1, by show (gT nk n (zD nr r 0) 0 n (nI 0) (nI 0)).2.1 = nI c; rw [h2, Nat.zero_add]⟩
theorem pN_mi {nr nk : Nat} (d : Nat) : ∀ (r : Nat → Int32) (n td a : Nat), RI r nr nk n td → td + d ≤ 199 → ∃ c, c ≤ 12 * d ∧ (pN nr nk d r (nI a)).2 = nI (a + c) := by
  induction d with
  | zero => intro r n td a _ _; exact ⟨0, by omega, rfl⟩
  | succ d ih =>
    intro r n td a hI htd
    obtain ⟨i1, i2, i3, i0, hb, -⟩ := id hI
    obtain ⟨n', hn', hI'⟩ := pD_keep hI (by omega)
    obtain ⟨c, h1, h2⟩ := pD_mi r nr nk n
    unfold pN
    rw [i3, ixx_nI (by omega), h2, nI_add]
    obtain ⟨c', h3, h4⟩ := ih _ n' (td + 1) (a + c) hI' (by omega)
    exact ⟨c + c', by omega, by rw [h4, Nat.add_assoc]⟩
theorem pN_keep {nr nk : Nat} (d : Nat) : ∀ (r : Nat → Int32) (n td : Nat) (mi : Int32), RI r nr nk n td → td + d ≤ 199 → ∃ n', n' ≤ n ∧ RI (pN nr nk d r mi).1 nr nk n' (td + d) := by
  induction d with
  | zero => intro r n td mi hI _; exact ⟨n, Nat.le_refl n, hI⟩
  | succ d ih =>
    intro r n td mi hI htd
    obtain ⟨i1, i2, i3, i0, hb, -⟩ := id hI
    obtain ⟨n', hn', hI'⟩ := pD_keep hI (by omega)
    unfold pN
    rw [i3, ixx_nI (by omega)]
    obtain ⟨n2, h3, h4⟩ := ih _ n' (td + 1) (mi + (pD r nr nk n).2.1) hI' (by omega)
    exact ⟨n2, by omega, by rw [show td + (d + 1) = td + 1 + d by omega]; exact h4⟩
/-! forecasts pass their days in a copy -/
def tgF : Nat → (Nat → Int32) → Nat → (Nat → Int32)
  | 0, r, _ => r
  | d + 1, r, i => tgF d (zup r (337 + 8 * i + 7) (nI i)) (i + 1)
theorem tgF_at {d i k : Nat} {r : Nat → Int32} (h : ∀ u, i ≤ u → u < i + d → k ≠ 337 + 8 * u + 7) : tgF d r i k = r k := by
  induction d generalizing r i with
  | zero => rfl
  | succ d ih => unfold tgF; rw [ih (fun u h1 h2 => h u (by omega) (by omega)), zup_ne (h i (by omega) (by omega))]
theorem tgF_in {d i u : Nat} {r : Nat → Int32} (h : i ≤ u) (h2 : u < i + d) : tgF d r i (337 + 8 * u + 7) = nI u := by
  induction d generalizing r i with
  | zero => omega
  | succ d ih =>
    unfold tgF
    by_cases e : u = i
    · subst e; rw [tgF_at (by omega), zup_eq rfl]
    · exact ih (by omega) (by omega)
def wF (f w : Nat → Int32) (n : Nat) : Nat → Int32 := tgF n (va_cpy f w 0 0 433) 0
theorem wF_at {f w : Nat → Int32} {n k : Nat} (hk : k < 433) (h : ∀ u, u < n → k ≠ 337 + 8 * u + 7) : wF f w n k = f k := by
  unfold wF; rw [tgF_at (fun u _ h2 => h u (by omega)), pk_cpy_in (by omega) (by omega), Nat.zero_add, Nat.sub_zero]
theorem RI_wF {f w : Nat → Int32} {nr nk n td : Nat} (hI : RI f nr nk n td) : RI (wF f w n) nr nk n td := by
  obtain ⟨i1, i2, i3, i0, hb, hT, hK⟩ := hI
  refine ⟨by rw [wF_at (by omega) (by omega)]; exact i1, by rw [wF_at (by omega) (by omega)]; exact i2, by rw [wF_at (by omega) (by omega)]; exact i3, by rw [wF_at (by omega) (by omega)]; exact i0, hb, fun u hu => ?_, KP_of (fun k hk => wF_at (by omega) (by omega)) hK⟩
  have hT' := hT u hu
  unfold TW
  rw [wF_at (k := 337 + 8 * u + 1) (by omega) (by omega), wF_at (k := 337 + 8 * u + 2) (by omega) (by omega), wF_at (k := 337 + 8 * u + 3) (by omega) (by omega), wF_at (k := 337 + 8 * u + 4) (by omega) (by omega), wF_at (k := 337 + 8 * u + 0) (by omega) (by omega), wF_at (k := 337 + 8 * u + 5) (by omega) (by omega)]
  exact hT'
theorem l_try2 {E : zE} {Q : zH → Prop} {m n : Nat} {h : zH} (hm : MS h m) (hn : n ≤ 12) {k' n' : Nat} (d : Nat) : ∀ (F : Nat → Nat → Int32) (i : Nat), i + d = n → F 3 3 = nI n →
    Q (MST h m (zup F 3 (tgF d (F 3) i))) → zJ E mX9_tryNow (zQv Q) 29 [some (.inr m), some (.inl (nI i))] [] (MST h m F) k' n' := by
  obtain ⟨mk, ⟨mr1, mr2, mr3, mr4, mr6, mr8⟩, ⟨mk1, mk2, mk3, mk4, mk5, mk6⟩, ⟨mn1, mn2, mn3, mn4, mn5, mn6⟩⟩ := id hm
  induction d with
  | zero =>
    intro F i hi h3 hq
    obtain rfl : i = n := by omega
    simp only [tgF, zup_self] at hq
    (refine jX9_tryNow 200 ?_; simp (disch := omega) only [↓wX9_tryNow_0, ↓wX9_tryNow_1, ↓wX9_tryNow_2, ↓wX9_tryNow_3, ↓wX9_tryNow_6, ↓wX9_tryNow_9, ↓wX9_tryNow_10, ↓wX9_tryNow_13, ↓wX9_tryNow_14, ↓wX9_tryNow_15, ↓wX9_tryNow_18, ↓wX9_tryNow_19, ↓wX9_tryNow_20, ↓wX9_tryNow_21, ↓wX9_tryNow_24, ↓wX9_tryNow_27, ↓wX9_tryNow_28, ↓wX9_tryNow_29, ↓wX9_tryNow_30, ↓wX9_tryNow_31, ↓wX9_tryNow_34, ↓wX9_tryNow_35, ↓wX9_tryNow_36, ↓wX9_tryNow_39, ↓wX9_tryNow_40, ↓wX9_tryNow_43, ↓wX9_tryNow_44, ↓wX9_tryNow_46, ↓wX9_tryNow_47, ↓wX9_tryNow_50, ↓wX9_tryNow_53, ↓wX9_tryNow_56, zQi_def, zQa_def, zQv_def, nI00, nI10, nI11, nI01, true_or, or_true, false_or, or_false, eq_self, true_implies, false_implies, not_true_eq_false, not_false_eq_true, zc9, zc1, zc2, zc3, zc1000, nI_m9, nI_add, pk_mul, ix_nI, vpT, zk_zpi, zn_zpi, zr_zpi, zk_zpa, zn_zpa, zr_zpa, zsz_zpi, zsz_zpa, zi_zpa, zpi_pa, zpa_zpa, true_and, and_true, and_self, zk_MST, zn_MST, zr_MST, zsz_MST, zi_MST, zi_MST0, zpa_MST, zpa_MST0, zup_eq, zup_ne, mk, mr1, mr2, mr3, mr4, mr6, mr8, mk1, mk2, mk3, mk4, mk5, mk6, mn1, mn2, mn3, mn4, mn5, mn6, h3, nI_leI, Nat.le_refl])
    exact hq
  | succ d ih =>
    intro F i hi h3 hq
    have hle : ¬ n ≤ i := by omega
    simp only [tgF] at hq
    (refine jX9_tryNow 200 ?_; simp (disch := omega) only [↓wX9_tryNow_0, ↓wX9_tryNow_1, ↓wX9_tryNow_2, ↓wX9_tryNow_3, ↓wX9_tryNow_6, ↓wX9_tryNow_9, ↓wX9_tryNow_10, ↓wX9_tryNow_13, ↓wX9_tryNow_14, ↓wX9_tryNow_15, ↓wX9_tryNow_18, ↓wX9_tryNow_19, ↓wX9_tryNow_20, ↓wX9_tryNow_21, ↓wX9_tryNow_24, ↓wX9_tryNow_27, ↓wX9_tryNow_28, ↓wX9_tryNow_29, ↓wX9_tryNow_30, ↓wX9_tryNow_31, ↓wX9_tryNow_34, ↓wX9_tryNow_35, ↓wX9_tryNow_36, ↓wX9_tryNow_39, ↓wX9_tryNow_40, ↓wX9_tryNow_43, ↓wX9_tryNow_44, ↓wX9_tryNow_46, ↓wX9_tryNow_47, ↓wX9_tryNow_50, ↓wX9_tryNow_53, ↓wX9_tryNow_56, zQi_def, zQa_def, zQv_def, nI00, nI10, nI11, nI01, true_or, or_true, false_or, or_false, eq_self, true_implies, false_implies, not_true_eq_false, not_false_eq_true, zc9, zc1, zc2, zc3, zc1000, nI_m9, nI_add, pk_mul, ix_nI, vpT, zk_zpi, zn_zpi, zr_zpi, zk_zpa, zn_zpa, zr_zpa, zsz_zpi, zsz_zpa, zi_zpa, zpi_pa, zpa_zpa, true_and, and_true, and_self, zk_MST, zn_MST, zr_MST, zsz_MST, zi_MST, zi_MST0, zpa_MST, zpa_MST0, zup_eq, zup_ne, mk, mr1, mr2, mr3, mr4, mr6, mr8, mk1, mk2, mk3, mk4, mk5, mk6, mn1, mn2, mn3, mn4, mn5, mn6, h3, nI_leI, hle])
    refine c_setTurn (AR_MS hm (by omega)) (by omega) (by omega) ?_
    simp (disch := omega) only [nI00, nI10, nI11, nI01, true_or, or_true, false_or, or_false, eq_self, true_implies, false_implies, not_true_eq_false, not_false_eq_true, zc9, zc1, zc2, zc3, zc1000, nI_m9, nI_add, pk_mul, ix_nI, vpT, zk_zpi, zn_zpi, zr_zpi, zk_zpa, zn_zpa, zr_zpa, zsz_zpi, zsz_zpa, zi_zpa, zpi_pa, zpa_zpa, true_and, and_true, and_self, zk_MST, zn_MST, zr_MST, zsz_MST, zi_MST, zi_MST0, zpa_MST, zpa_MST0, zup_eq, zup_ne]
    refine ih _ (i + 1) (by omega) ?_ ?_
    · simp (disch := omega) only [zup_eq, zup_ne]; exact h3
    · simp (disch := omega) only [zup_eq, zup_zup]; exact hq
theorem l_try1 {E : zE} {Q : zH → Prop} {m : Nat} {h : zH} {w : Nat → Int32} (hm : MS h m) {k' n' : Nat} (d : Nat) : ∀ (F : Nat → Nat → Int32) (i : Nat), i + d = 433 → F 3 = va_cpy (F 1) w 0 0 i →
    zJ E mX9_tryNow (zQv Q) 29 [some (.inr m), some (.inl (nI 0))] [] (MST h m (zup F 3 (va_cpy (F 1) w 0 0 433))) k' n' → zJ E mX9_tryNow (zQv Q) 2 [some (.inr m), some (.inl (nI i))] [] (MST h m F) k' n' := by
  obtain ⟨mk, ⟨mr1, mr2, mr3, mr4, mr6, mr8⟩, ⟨mk1, mk2, mk3, mk4, mk5, mk6⟩, ⟨mn1, mn2, mn3, mn4, mn5, mn6⟩⟩ := id hm
  induction d with
  | zero =>
    intro F i hi h3 hq
    obtain rfl : i = 433 := by omega
    rw [← h3, zup_self] at hq
    (refine jX9_tryNow 200 ?_; simp (disch := omega) only [↓wX9_tryNow_0, ↓wX9_tryNow_1, ↓wX9_tryNow_2, ↓wX9_tryNow_3, ↓wX9_tryNow_6, ↓wX9_tryNow_9, ↓wX9_tryNow_10, ↓wX9_tryNow_13, ↓wX9_tryNow_14, ↓wX9_tryNow_15, ↓wX9_tryNow_18, ↓wX9_tryNow_19, ↓wX9_tryNow_20, ↓wX9_tryNow_21, ↓wX9_tryNow_24, ↓wX9_tryNow_27, ↓wX9_tryNow_28, ↓wX9_tryNow_29, ↓wX9_tryNow_30, ↓wX9_tryNow_31, ↓wX9_tryNow_34, ↓wX9_tryNow_35, ↓wX9_tryNow_36, ↓wX9_tryNow_39, ↓wX9_tryNow_40, ↓wX9_tryNow_43, ↓wX9_tryNow_44, ↓wX9_tryNow_46, ↓wX9_tryNow_47, ↓wX9_tryNow_50, ↓wX9_tryNow_53, ↓wX9_tryNow_56, zQi_def, zQa_def, zQv_def, nI00, nI10, nI11, nI01, true_or, or_true, false_or, or_false, eq_self, true_implies, false_implies, not_true_eq_false, not_false_eq_true, zc9, zc1, zc2, zc3, zc1000, nI_m9, nI_add, pk_mul, ix_nI, vpT, zk_zpi, zn_zpi, zr_zpi, zk_zpa, zn_zpa, zr_zpa, zsz_zpi, zsz_zpa, zi_zpa, zpi_pa, zpa_zpa, true_and, and_true, and_self, zk_MST, zn_MST, zr_MST, zsz_MST, zi_MST, zi_MST0, zpa_MST, zpa_MST0, zup_eq, zup_ne, mk, mr1, mr2, mr3, mr4, mr6, mr8, mk1, mk2, mk3, mk4, mk5, mk6, mn1, mn2, mn3, mn4, mn5, mn6, nI_leI, Nat.le_refl])
    exact hq
  | succ d ih =>
    intro F i hi h3 hq
    have hle : ¬ 433 ≤ i := by omega
    (refine jX9_tryNow 200 ?_; simp (disch := omega) only [↓wX9_tryNow_0, ↓wX9_tryNow_1, ↓wX9_tryNow_2, ↓wX9_tryNow_3, ↓wX9_tryNow_6, ↓wX9_tryNow_9, ↓wX9_tryNow_10, ↓wX9_tryNow_13, ↓wX9_tryNow_14, ↓wX9_tryNow_15, ↓wX9_tryNow_18, ↓wX9_tryNow_19, ↓wX9_tryNow_20, ↓wX9_tryNow_21, ↓wX9_tryNow_24, ↓wX9_tryNow_27, ↓wX9_tryNow_28, ↓wX9_tryNow_29, ↓wX9_tryNow_30, ↓wX9_tryNow_31, ↓wX9_tryNow_34, ↓wX9_tryNow_35, ↓wX9_tryNow_36, ↓wX9_tryNow_39, ↓wX9_tryNow_40, ↓wX9_tryNow_43, ↓wX9_tryNow_44, ↓wX9_tryNow_46, ↓wX9_tryNow_47, ↓wX9_tryNow_50, ↓wX9_tryNow_53, ↓wX9_tryNow_56, zQi_def, zQa_def, zQv_def, nI00, nI10, nI11, nI01, true_or, or_true, false_or, or_false, eq_self, true_implies, false_implies, not_true_eq_false, not_false_eq_true, zc9, zc1, zc2, zc3, zc1000, nI_m9, nI_add, pk_mul, ix_nI, vpT, zk_zpi, zn_zpi, zr_zpi, zk_zpa, zn_zpa, zr_zpa, zsz_zpi, zsz_zpa, zi_zpa, zpi_pa, zpa_zpa, true_and, and_true, and_self, zk_MST, zn_MST, zr_MST, zsz_MST, zi_MST, zi_MST0, zpa_MST, zpa_MST0, zup_eq, zup_ne, mk, mr1, mr2, mr3, mr4, mr6, mr8, mk1, mk2, mk3, mk4, mk5, mk6, mn1, mn2, mn3, mn4, mn5, mn6, nI_leI, hle])
    refine ih _ (i + 1) (by omega) ?_ ?_
    · simp (disch := omega) only [zup_eq, zup_ne]
      rw [cpy_succ, ← h3, Nat.zero_add]
    · simp (disch := omega) only [zup_ne, zup_zup]; exact hq
theorem d_tryNow {E : zE} {Q : zH → Prop} {m nr nk n td : Nat} {h : zH} {F : Nat → Nat → Int32} (hm : MS h m) (hI : RI (F 1) nr nk n td) (hq : Q (MST h m (zup F 3 (wF (F 1) (F 3) n)))) : zMv E mX9_tryNow [.inr m] (MST h m F) Q := by
  obtain ⟨i1, i2, i3, i0, hb, hT, hK⟩ := id hI
  (refine eX9_tryNow 200 ?_; simp (disch := omega) only [↓wX9_tryNow_0, ↓wX9_tryNow_1, ↓wX9_tryNow_2, ↓wX9_tryNow_3, ↓wX9_tryNow_6, ↓wX9_tryNow_9, ↓wX9_tryNow_10, ↓wX9_tryNow_13, ↓wX9_tryNow_14, ↓wX9_tryNow_15, ↓wX9_tryNow_18, ↓wX9_tryNow_19, ↓wX9_tryNow_20, ↓wX9_tryNow_21, ↓wX9_tryNow_24, ↓wX9_tryNow_27, ↓wX9_tryNow_28, ↓wX9_tryNow_29, ↓wX9_tryNow_30, ↓wX9_tryNow_31, ↓wX9_tryNow_34, ↓wX9_tryNow_35, ↓wX9_tryNow_36, ↓wX9_tryNow_39, ↓wX9_tryNow_40, ↓wX9_tryNow_43, ↓wX9_tryNow_44, ↓wX9_tryNow_46, ↓wX9_tryNow_47, ↓wX9_tryNow_50, ↓wX9_tryNow_53, ↓wX9_tryNow_56, zQi_def, zQa_def, zQv_def, nI00, nI10, nI11, nI01, true_or, or_true, false_or, or_false, eq_self, true_implies, false_implies, not_true_eq_false, not_false_eq_true, zc9, zc1, zc2, zc3, zc1000, nI_m9, nI_add, pk_mul, ix_nI, vpT, zk_zpi, zn_zpi, zr_zpi, zk_zpa, zn_zpa, zr_zpa, zsz_zpi, zsz_zpa, zi_zpa, zpi_pa, zpa_zpa, true_and, and_true, and_self])
  refine l_try1 (w := F 3) hm 433 F 0 (by omega) (cpy_0 _ _ _ _).symm ?_
  refine l_try2 (n := n) hm hb.2.1 n _ 0 (by omega) ?_ ?_
  · simp (disch := omega) only [zup_eq]; rw [pk_cpy_in (by omega) (by omega)]; exact i3
  · simp (disch := omega) only [zup_eq, zup_zup]; exact hq
theorem SME_w {F : Nat → Nat → Int32} {R : Nat → Int32} {T : Int32} (hz : F 0 0 = nI 0) : SME F (zup (zup F 3 R) 0 (zup (F 0) 9 T)) := by
  refine ⟨?_, ?_, ?_, ?_, ?_, ?_⟩ <;> simp (disch := omega) only [zup_eq, zup_ne, hz]
def dO (nr nk : Nat) (t : Nat) : Nat → (Nat → Int32) → Int32
  | 0, _ => -9
  | d + 1, r => if ((pD r nr nk (ixx (r 3))).2.2 >>> (nI t &&& 31)) &&& nI 1 = nI 1 then (pD r nr nk (ixx (r 3))).1 0 - nI 1 else dO nr nk t d (pD r nr nk (ixx (r 3))).1
theorem l_doneOn {E : zE} {Q : Int32 → zH → Prop} {m nr nk t : Nat} {h : zH} (hm : MS h m) {k' n' : Nat} (d : Nat) : ∀ (F : Nat → Nat → Int32) (n td c : Nat), td + d = 199 → c ≤ 12 → RI (F 3) nr nk n td →
    (∀ R tg, Q (dO nr nk t d (F 3)) (MST h m (zup (zup F 3 R) 0 (zup (F 0) 9 tg)))) →
    zJ E mX9_doneOn (zQi Q) 21 [some (.inr m), some (.inl (nI t)), some (.inl (nI c))] [] (MST h m F) k' n' := by
  obtain ⟨mk, ⟨mr1, mr2, mr3, mr4, mr6, mr8⟩, ⟨mk1, mk2, mk3, mk4, mk5, mk6⟩, ⟨mn1, mn2, mn3, mn4, mn5, mn6⟩⟩ := id hm
  induction d with
  | zero =>
    intro F n td c htd hc hI hq
    obtain ⟨i1, i2, i3, i0, hb, hT, hK⟩ := id hI
    have hq := hq (F 3) (F 0 9)
    obtain rfl : td = 199 := by omega
    simp only [dO, zup_self] at hq
    (refine jX9_doneOn 200 ?_; simp (disch := omega) only [↓wX9_doneOn_0, ↓wX9_doneOn_1, ↓wX9_doneOn_2, ↓wX9_doneOn_5, ↓wX9_doneOn_6, ↓wX9_doneOn_7, ↓wX9_doneOn_10, ↓wX9_doneOn_13, ↓wX9_doneOn_14, ↓wX9_doneOn_15, ↓wX9_doneOn_16, ↓wX9_doneOn_19, ↓wX9_doneOn_20, ↓wX9_doneOn_21, ↓wX9_doneOn_22, ↓wX9_doneOn_25, ↓wX9_doneOn_26, ↓wX9_doneOn_27, ↓wX9_doneOn_30, ↓wX9_doneOn_33, ↓wX9_doneOn_34, ↓wX9_doneOn_37, ↓wX9_doneOn_38, ↓wX9_doneOn_39, ↓wX9_doneOn_42, ↓wX9_doneOn_45, ↓wX9_doneOn_46, ↓wX9_doneOn_47, ↓wX9_doneOn_50, ↓wX9_doneOn_51, ↓wX9_doneOn_52, ↓wX9_doneOn_53, ↓wX9_doneOn_54, ↓wX9_doneOn_55, ↓wX9_doneOn_58, ↓wX9_doneOn_59, ↓wX9_doneOn_62, ↓wX9_doneOn_63, ↓wX9_doneOn_64, ↓wX9_doneOn_65, ↓wX9_doneOn_66, ↓wX9_doneOn_67, ↓wX9_doneOn_69, zQi_def, zQa_def, zQv_def, nI00, nI10, nI11, nI01, true_or, or_true, false_or, or_false, eq_self, true_implies, false_implies, not_true_eq_false, not_false_eq_true, zc9, zc1, zc2, zc3, zc1000, nI_m9, nI_add, pk_mul, ix_nI, vpT, zk_zpi, zn_zpi, zr_zpi, zk_zpa, zn_zpa, zr_zpa, zsz_zpi, zsz_zpa, zi_zpa, zpi_pa, zpa_zpa, true_and, and_true, and_self, zk_MST, zn_MST, zr_MST, zsz_MST, zi_MST, zi_MST0, zpa_MST, zpa_MST0, zup_eq, zup_ne, mk, mr1, mr2, mr3, mr4, mr6, mr8, mk1, mk2, mk3, mk4, mk5, mk6, mn1, mn2, mn3, mn4, mn5, mn6, nI_leI, nI_ltI, i0, Nat.le_refl, Nat.lt_irrefl])
    exact hq
  | succ d ih =>
    intro F n td c htd hc hI hq
    obtain ⟨i1, i2, i3, i0, hb, hT, hK⟩ := id hI
    have hle : ¬ 199 ≤ td := by omega
    have hlt : td < 199 := by omega
    have hc0 : ((0 : Int32) ≤ nI c) = True := eq_true (nI_pos' (by omega))
    simp (disch := omega) only [dO, i3, ixx_nI] at hq
    obtain ⟨n2, hn2, hI'⟩ := pD_keep hI (by omega)
    obtain ⟨c', hc', hmi⟩ := pD_mi (F 3) nr nk n
    have hG : GI (F 3) n nr nk td := ⟨i3, i2, i0, ⟨by omega, hb.2.1, hb.2.2⟩, hT⟩
    have e0 := hI'.2.2.2.1
    (refine jX9_doneOn 200 ?_; simp (disch := omega) only [↓wX9_doneOn_0, ↓wX9_doneOn_1, ↓wX9_doneOn_2, ↓wX9_doneOn_5, ↓wX9_doneOn_6, ↓wX9_doneOn_7, ↓wX9_doneOn_10, ↓wX9_doneOn_13, ↓wX9_doneOn_14, ↓wX9_doneOn_15, ↓wX9_doneOn_16, ↓wX9_doneOn_19, ↓wX9_doneOn_20, ↓wX9_doneOn_21, ↓wX9_doneOn_22, ↓wX9_doneOn_25, ↓wX9_doneOn_26, ↓wX9_doneOn_27, ↓wX9_doneOn_30, ↓wX9_doneOn_33, ↓wX9_doneOn_34, ↓wX9_doneOn_37, ↓wX9_doneOn_38, ↓wX9_doneOn_39, ↓wX9_doneOn_42, ↓wX9_doneOn_45, ↓wX9_doneOn_46, ↓wX9_doneOn_47, ↓wX9_doneOn_50, ↓wX9_doneOn_51, ↓wX9_doneOn_52, ↓wX9_doneOn_53, ↓wX9_doneOn_54, ↓wX9_doneOn_55, ↓wX9_doneOn_58, ↓wX9_doneOn_59, ↓wX9_doneOn_62, ↓wX9_doneOn_63, ↓wX9_doneOn_64, ↓wX9_doneOn_65, ↓wX9_doneOn_66, ↓wX9_doneOn_67, ↓wX9_doneOn_69, zQi_def, zQa_def, zQv_def, nI00, nI10, nI11, nI01, true_or, or_true, false_or, or_false, eq_self, true_implies, false_implies, not_true_eq_false, not_false_eq_true, zc9, zc1, zc2, zc3, zc1000, nI_m9, nI_add, pk_mul, ix_nI, vpT, zk_zpi, zn_zpi, zr_zpi, zk_zpa, zn_zpa, zr_zpa, zsz_zpi, zsz_zpa, zi_zpa, zpi_pa, zpa_zpa, true_and, and_true, and_self, zk_MST, zn_MST, zr_MST, zsz_MST, zi_MST, zi_MST0, zpa_MST, zpa_MST0, zup_eq, zup_ne, mk, mr1, mr2, mr3, mr4, mr6, mr8, mk1, mk2, mk3, mk4, mk5, mk6, mn1, mn2, mn3, mn4, mn5, mn6, nI_leI, nI_ltI, i0, hle, hlt, hc0, nI_nneg])
    refine c_passDay (n := n) (nr := nr) (nk := nk) (td := td) hm (by omega) hG hK i1 ?_
    simp (disch := omega) only [nI00, nI10, nI11, nI01, true_or, or_true, false_or, or_false, eq_self, true_implies, false_implies, not_true_eq_false, not_false_eq_true, zc9, zc1, zc2, zc3, zc1000, nI_m9, nI_add, pk_mul, ix_nI, vpT, zk_zpi, zn_zpi, zr_zpi, zk_zpa, zn_zpa, zr_zpa, zsz_zpi, zsz_zpa, zi_zpa, zpi_pa, zpa_zpa, true_and, and_true, and_self, zk_MST, zn_MST, zr_MST, zsz_MST, zi_MST, zi_MST0, zpa_MST, zpa_MST0, zup_eq, zup_ne, mk, mr1, mr2, mr3, mr4, mr6, mr8, mk1, mk2, mk3, mk4, mk5, mk6, mn1, mn2, mn3, mn4, mn5, mn6, hmi]
    by_cases hb : ((pD (F 3) nr nk n).2.2 >>> (nI t &&& 31)) &&& nI 1 = nI 1
    · simp only [hb, nI00, nI10, nI11, nI01, true_or, or_true, false_or, or_false, eq_self, true_implies, false_implies, not_true_eq_false, not_false_eq_true, zc9, zc1, zc2, zc3, zc1000, nI_m9, nI_add, pk_mul, ix_nI, vpT, zk_zpi, zn_zpi, zr_zpi, zk_zpa, zn_zpa, zr_zpa, zsz_zpi, zsz_zpa, zi_zpa, zpi_pa, zpa_zpa, true_and, and_true, and_self, if_true] at hq ⊢
      exact hq _ _
    · simp only [hb, nI00, nI10, nI11, nI01, true_or, or_true, false_or, or_false, eq_self, true_implies, false_implies, not_true_eq_false, not_false_eq_true, zc9, zc1, zc2, zc3, zc1000, nI_m9, nI_add, pk_mul, ix_nI, vpT, zk_zpi, zn_zpi, zr_zpi, zk_zpa, zn_zpa, zr_zpa, zsz_zpi, zsz_zpa, zi_zpa, zpi_pa, zpa_zpa, true_and, and_true, and_self, if_false] at hq ⊢
      refine ih _ n2 (td + 1) c' (by omega) (by omega) ?_ ?_
      · simp (disch := omega) only [zup_eq, zup_ne]; exact hI'
      · intro R tg
        rw [gfin (F := F) (F' := zup (zup F 3 (pD (F 3) nr nk n).1) 0 (zup (F 0) 9 (pD (F 3) nr nk n).2.2)) (fun q q1 q2 => by simp (disch := omega) only [zup_ne]) (fun q q1 => by simp (disch := omega) only [zup_eq, zup_ne])]
        simp (disch := omega) only [zup_eq, zup_ne]
        exact hq _ _
theorem l_later {E : zE} {Q : Int32 → zH → Prop} {m nr nk D a b n0 : Nat} {h : zH} (hm : MS h m) (hD : D ≤ 60) (ha : a < nk) (hb7 : b < 7) {k' n' : Nat} {l3 : Option zV} (d : Nat) : ∀ (F : Nat → Nat → Int32) (i n td c : Nat), i + d = D → c ≤ 12 * i → td + d ≤ 199 → RI (F 3) nr nk n td →
    (∀ R tg, Q ((pN nr nk d (F 3) (nI c)).1 (281 + 7 * a + b)) (MST h m (zup (zup F 3 R) 0 (zup (F 0) 9 tg)))) →
    zJ E mX9_later (zQi Q) 62 [some (.inr m), some (.inl (nI a)), some (.inl (nI D)), some (.inl (nI b)), some (.inl (nI c)), some (.inl (nI i))] [] (MST h m F) k' n' := by
  obtain ⟨mk, ⟨mr1, mr2, mr3, mr4, mr6, mr8⟩, ⟨mk1, mk2, mk3, mk4, mk5, mk6⟩, ⟨mn1, mn2, mn3, mn4, mn5, mn6⟩⟩ := id hm
  induction d with
  | zero =>
    intro F i n td c hi hc htd hI hq
    obtain ⟨i1, i2, i3, i0, hb, hT, hK⟩ := id hI
    have hq := hq (F 3) (F 0 9)
    obtain rfl : i = D := by omega
    have hc0 : ((0 : Int32) ≤ nI c) = True := eq_true (nI_pos' (by omega))
    simp only [pN, zup_self] at hq
    (refine jX9_later 200 ?_; simp (disch := omega) only [↓wX9_later_0, ↓wX9_later_1, ↓wX9_later_2, ↓wX9_later_5, ↓wX9_later_6, ↓wX9_later_7, ↓wX9_later_10, ↓wX9_later_13, ↓wX9_later_14, ↓wX9_later_15, ↓wX9_later_17, ↓wX9_later_20, ↓wX9_later_23, ↓wX9_later_24, ↓wX9_later_25, ↓wX9_later_27, ↓wX9_later_30, ↓wX9_later_33, ↓wX9_later_34, ↓wX9_later_35, ↓wX9_later_36, ↓wX9_later_39, ↓wX9_later_40, ↓wX9_later_41, ↓wX9_later_42, ↓wX9_later_43, ↓wX9_later_46, ↓wX9_later_49, ↓wX9_later_51, ↓wX9_later_52, ↓wX9_later_53, ↓wX9_later_56, ↓wX9_later_57, ↓wX9_later_59, ↓wX9_later_60, ↓wX9_later_62, ↓wX9_later_64, ↓wX9_later_65, ↓wX9_later_68, ↓wX9_later_70, ↓wX9_later_71, ↓wX9_later_72, ↓wX9_later_75, ↓wX9_later_78, ↓wX9_later_79, ↓wX9_later_81, ↓wX9_later_84, ↓wX9_later_87, ↓wX9_later_89, ↓wX9_later_92, ↓wX9_later_94, ↓wX9_later_97, ↓wX9_later_98, ↓wX9_later_101, ↓wX9_later_102, ↓wX9_later_103, ↓wX9_later_106, zQi_def, zQa_def, zQv_def, nI00, nI10, nI11, nI01, true_or, or_true, false_or, or_false, eq_self, true_implies, false_implies, not_true_eq_false, not_false_eq_true, zc9, zc1, zc2, zc3, zc1000, nI_m9, nI_add, pk_mul, ix_nI, vpT, zk_zpi, zn_zpi, zr_zpi, zk_zpa, zn_zpa, zr_zpa, zsz_zpi, zsz_zpa, zi_zpa, zpi_pa, zpa_zpa, true_and, and_true, and_self, zk_MST, zn_MST, zr_MST, zsz_MST, zi_MST, zi_MST0, zpa_MST, zpa_MST0, zup_eq, zup_ne, mk, mr1, mr2, mr3, mr4, mr6, mr8, mk1, mk2, mk3, mk4, mk5, mk6, mn1, mn2, mn3, mn4, mn5, mn6, nI_leI, Nat.le_refl, hc0, nI_nneg])
    refine c_ofKeeper (AR_MS hm (by omega)) (by omega) (by omega) ?_
    simp (disch := omega) only [nI00, nI10, nI11, nI01, true_or, or_true, false_or, or_false, eq_self, true_implies, false_implies, not_true_eq_false, not_false_eq_true, zc9, zc1, zc2, zc3, zc1000, nI_m9, nI_add, pk_mul, ix_nI, vpT, zk_zpi, zn_zpi, zr_zpi, zk_zpa, zn_zpa, zr_zpa, zsz_zpi, zsz_zpa, zi_zpa, zpi_pa, zpa_zpa, true_and, and_true, and_self, zk_MST, zn_MST, zr_MST, zsz_MST, zi_MST, zi_MST0, zpa_MST, zpa_MST0, zup_eq, zup_ne]
    exact hq
  | succ d ih =>
    intro F i n td c hi hc htd hI hq
    obtain ⟨i1, i2, i3, i0, hb, hT, hK⟩ := id hI
    have hle : ¬ D ≤ i := by omega
    simp (disch := omega) only [pN, i3, ixx_nI] at hq
    obtain ⟨n2, hn2, hI'⟩ := pD_keep hI (by omega)
    obtain ⟨c', hc', hmi⟩ := pD_mi (F 3) nr nk n
    have hG : GI (F 3) n nr nk td := ⟨i3, i2, i0, ⟨by omega, hb.2.1, hb.2.2⟩, hT⟩
    rw [hmi, nI_add] at hq
    (refine jX9_later 200 ?_; simp (disch := omega) only [↓wX9_later_0, ↓wX9_later_1, ↓wX9_later_2, ↓wX9_later_5, ↓wX9_later_6, ↓wX9_later_7, ↓wX9_later_10, ↓wX9_later_13, ↓wX9_later_14, ↓wX9_later_15, ↓wX9_later_17, ↓wX9_later_20, ↓wX9_later_23, ↓wX9_later_24, ↓wX9_later_25, ↓wX9_later_27, ↓wX9_later_30, ↓wX9_later_33, ↓wX9_later_34, ↓wX9_later_35, ↓wX9_later_36, ↓wX9_later_39, ↓wX9_later_40, ↓wX9_later_41, ↓wX9_later_42, ↓wX9_later_43, ↓wX9_later_46, ↓wX9_later_49, ↓wX9_later_51, ↓wX9_later_52, ↓wX9_later_53, ↓wX9_later_56, ↓wX9_later_57, ↓wX9_later_59, ↓wX9_later_60, ↓wX9_later_62, ↓wX9_later_64, ↓wX9_later_65, ↓wX9_later_68, ↓wX9_later_70, ↓wX9_later_71, ↓wX9_later_72, ↓wX9_later_75, ↓wX9_later_78, ↓wX9_later_79, ↓wX9_later_81, ↓wX9_later_84, ↓wX9_later_87, ↓wX9_later_89, ↓wX9_later_92, ↓wX9_later_94, ↓wX9_later_97, ↓wX9_later_98, ↓wX9_later_101, ↓wX9_later_102, ↓wX9_later_103, ↓wX9_later_106, zQi_def, zQa_def, zQv_def, nI00, nI10, nI11, nI01, true_or, or_true, false_or, or_false, eq_self, true_implies, false_implies, not_true_eq_false, not_false_eq_true, zc9, zc1, zc2, zc3, zc1000, nI_m9, nI_add, pk_mul, ix_nI, vpT, zk_zpi, zn_zpi, zr_zpi, zk_zpa, zn_zpa, zr_zpa, zsz_zpi, zsz_zpa, zi_zpa, zpi_pa, zpa_zpa, true_and, and_true, and_self, zk_MST, zn_MST, zr_MST, zsz_MST, zi_MST, zi_MST0, zpa_MST, zpa_MST0, zup_eq, zup_ne, mk, mr1, mr2, mr3, mr4, mr6, mr8, mk1, mk2, mk3, mk4, mk5, mk6, mn1, mn2, mn3, mn4, mn5, mn6, nI_leI, hle])
    refine c_passDay (n := n) (nr := nr) (nk := nk) (td := td) hm (by omega) hG hK i1 ?_
    simp (disch := omega) only [nI00, nI10, nI11, nI01, true_or, or_true, false_or, or_false, eq_self, true_implies, false_implies, not_true_eq_false, not_false_eq_true, zc9, zc1, zc2, zc3, zc1000, nI_m9, nI_add, pk_mul, ix_nI, vpT, zk_zpi, zn_zpi, zr_zpi, zk_zpa, zn_zpa, zr_zpa, zsz_zpi, zsz_zpa, zi_zpa, zpi_pa, zpa_zpa, true_and, and_true, and_self, zk_MST, zn_MST, zr_MST, zsz_MST, zi_MST, zi_MST0, zpa_MST, zpa_MST0, zup_eq, zup_ne, mk, mr1, mr2, mr3, mr4, mr6, mr8, mk1, mk2, mk3, mk4, mk5, mk6, mn1, mn2, mn3, mn4, mn5, mn6, hmi]
    refine ih _ (i + 1) n2 (td + 1) (c + c') (by omega) (by omega) (by omega) ?_ ?_
    · simp (disch := omega) only [zup_eq, zup_ne]; exact hI'
    · intro R tg
      rw [gfin (F := F) (F' := zup (zup F 3 (pD (F 3) nr nk n).1) 0 (zup (F 0) 9 (pD (F 3) nr nk n).2.2)) (fun q q1 q2 => by simp (disch := omega) only [zup_ne]) (fun q q1 => by simp (disch := omega) only [zup_eq, zup_ne])]
      simp (disch := omega) only [zup_eq, zup_ne]
      exact hq _ _
def qDon (f w : Nat → Int32) (nr nk n td : Nat) (t : Int32) : Int32 := if inN t n then dO nr nk (ixx t) (199 - td) (wF f w n) else -1
def qLat (f w : Nat → Int32) (nr nk n td : Nat) (k d x : Int32) : Int32 := if inN k nk ∧ inN d 61 ∧ inN x 7 then (if nI (td + ixx d) ≤ nI 199 then (pN nr nk (ixx d) (wF f w n) (nI 0)).1 (281 + 7 * ixx k + ixx x) else -2) else -1
theorem p_doneOn {E : zE} {Q : Int32 → zH → Prop} {m : Nat} {h : zH} {F : Nat → Nat → Int32} {nr nk n td s L : Nat} {t : Int32} (hm : MS h m) (hM : MI F s L) (hI : RI (F 1) nr nk n td) (hq : ∀ F', SME F F' → Q (qDon (F 1) (F 3) nr nk n td t) (MST h m F')) : zMi E mX9_doneOn [.inr m, .inl t] (MST h m F) Q := by
  obtain ⟨mk, ⟨mr1, mr2, mr3, mr4, mr6, mr8⟩, ⟨mk1, mk2, mk3, mk4, mk5, mk6⟩, ⟨mn1, mn2, mn3, mn4, mn5, mn6⟩⟩ := id hm
  obtain ⟨i1, i2, i3, i0, hb, hT, hK⟩ := id hI
  obtain ⟨hz, i5, hs, i7, hL⟩ := id hM
  have hthr := thr_id hz
  unfold qDon at hq
  by_cases ht : inN t n
  · obtain ⟨a, ha, rfl⟩ := (inN_iff (by omega)).mp ht
    simp (disch := omega) only [inN_nI, ha, if_true, ixx_nI] at hq
    (refine eX9_doneOn 200 ?_; simp (disch := omega) only [↓wX9_doneOn_0, ↓wX9_doneOn_1, ↓wX9_doneOn_2, ↓wX9_doneOn_5, ↓wX9_doneOn_6, ↓wX9_doneOn_7, ↓wX9_doneOn_10, ↓wX9_doneOn_13, ↓wX9_doneOn_14, ↓wX9_doneOn_15, ↓wX9_doneOn_16, ↓wX9_doneOn_19, ↓wX9_doneOn_20, ↓wX9_doneOn_21, ↓wX9_doneOn_22, ↓wX9_doneOn_25, ↓wX9_doneOn_26, ↓wX9_doneOn_27, ↓wX9_doneOn_30, ↓wX9_doneOn_33, ↓wX9_doneOn_34, ↓wX9_doneOn_37, ↓wX9_doneOn_38, ↓wX9_doneOn_39, ↓wX9_doneOn_42, ↓wX9_doneOn_45, ↓wX9_doneOn_46, ↓wX9_doneOn_47, ↓wX9_doneOn_50, ↓wX9_doneOn_51, ↓wX9_doneOn_52, ↓wX9_doneOn_53, ↓wX9_doneOn_54, ↓wX9_doneOn_55, ↓wX9_doneOn_58, ↓wX9_doneOn_59, ↓wX9_doneOn_62, ↓wX9_doneOn_63, ↓wX9_doneOn_64, ↓wX9_doneOn_65, ↓wX9_doneOn_66, ↓wX9_doneOn_67, ↓wX9_doneOn_69, zQi_def, zQa_def, zQv_def, nI00, nI10, nI11, nI01, true_or, or_true, false_or, or_false, eq_self, true_implies, false_implies, not_true_eq_false, not_false_eq_true, zc9, zc1, zc2, zc3, zc1000, nI_m9, nI_add, pk_mul, ix_nI, vpT, zk_zpi, zn_zpi, zr_zpi, zk_zpa, zn_zpa, zr_zpa, zsz_zpi, zsz_zpa, zi_zpa, zpi_pa, zpa_zpa, true_and, and_true, and_self, zk_MST, zn_MST, zr_MST, zsz_MST, zi_MST, zi_MST0, zpa_MST, zpa_MST0, zup_eq, zup_ne, mk, mr1, mr2, mr3, mr4, mr6, mr8, mk1, mk2, mk3, mk4, mk5, mk6, mn1, mn2, mn3, mn4, mn5, mn6, zb_eq0, zb_in0, inN_nI, i0, i1, i2, i3, i5, hthr])
    refine d_isTurn hm (by omega) i3 ?_
    simp (disch := omega) only [nI00, nI10, nI11, nI01, true_or, or_true, false_or, or_false, eq_self, true_implies, false_implies, not_true_eq_false, not_false_eq_true, zc9, zc1, zc2, zc3, zc1000, nI_m9, nI_add, pk_mul, ix_nI, vpT, zk_zpi, zn_zpi, zr_zpi, zk_zpa, zn_zpa, zr_zpa, zsz_zpi, zsz_zpa, zi_zpa, zpi_pa, zpa_zpa, true_and, and_true, and_self, mk, mr1, mr2, mr3, mr4, mr6, mr8, mk1, mk2, mk3, mk4, mk5, mk6, mn1, mn2, mn3, mn4, mn5, mn6, zk_MST, zn_MST, zr_MST, zsz_MST, zi_MST, zi_MST0, zpa_MST, zpa_MST0, zup_eq, zup_ne, zb_eq0, zb_in0, inN_nI, i0, i1, i2, i3, i5, hthr, ha]
    refine d_tryNow hm hI ?_
    try simp (disch := omega) only [nI00, nI10, nI11, nI01, true_or, or_true, false_or, or_false, eq_self, true_implies, false_implies, not_true_eq_false, not_false_eq_true, zc9, zc1, zc2, zc3, zc1000, nI_m9, nI_add, pk_mul, ix_nI, vpT, zk_zpi, zn_zpi, zr_zpi, zk_zpa, zn_zpa, zr_zpa, zsz_zpi, zsz_zpa, zi_zpa, zpi_pa, zpa_zpa, true_and, and_true, and_self, zk_MST, zn_MST, zr_MST, zsz_MST, zi_MST, zi_MST0, zpa_MST, zpa_MST0, zup_eq, zup_ne, mk, mr1, mr2, mr3, mr4, mr6, mr8, mk1, mk2, mk3, mk4, mk5, mk6, mn1, mn2, mn3, mn4, mn5, mn6]
    refine l_doneOn (nr := nr) (nk := nk) hm (199 - td) _ n td 0 (by omega) (by omega) ?_ ?_
    · simp (disch := omega) only [zup_eq]; exact RI_wF hI
    · intro R tg
      simp (disch := omega) only [zup_eq, zup_ne, zup_zup]
      exact hq _ (SME_w hz)
  · simp (disch := omega) only [eq_false ht, if_false] at hq
    (refine eX9_doneOn 200 ?_; simp (disch := omega) only [↓wX9_doneOn_0, ↓wX9_doneOn_1, ↓wX9_doneOn_2, ↓wX9_doneOn_5, ↓wX9_doneOn_6, ↓wX9_doneOn_7, ↓wX9_doneOn_10, ↓wX9_doneOn_13, ↓wX9_doneOn_14, ↓wX9_doneOn_15, ↓wX9_doneOn_16, ↓wX9_doneOn_19, ↓wX9_doneOn_20, ↓wX9_doneOn_21, ↓wX9_doneOn_22, ↓wX9_doneOn_25, ↓wX9_doneOn_26, ↓wX9_doneOn_27, ↓wX9_doneOn_30, ↓wX9_doneOn_33, ↓wX9_doneOn_34, ↓wX9_doneOn_37, ↓wX9_doneOn_38, ↓wX9_doneOn_39, ↓wX9_doneOn_42, ↓wX9_doneOn_45, ↓wX9_doneOn_46, ↓wX9_doneOn_47, ↓wX9_doneOn_50, ↓wX9_doneOn_51, ↓wX9_doneOn_52, ↓wX9_doneOn_53, ↓wX9_doneOn_54, ↓wX9_doneOn_55, ↓wX9_doneOn_58, ↓wX9_doneOn_59, ↓wX9_doneOn_62, ↓wX9_doneOn_63, ↓wX9_doneOn_64, ↓wX9_doneOn_65, ↓wX9_doneOn_66, ↓wX9_doneOn_67, ↓wX9_doneOn_69, zQi_def, zQa_def, zQv_def, nI00, nI10, nI11, nI01, true_or, or_true, false_or, or_false, eq_self, true_implies, false_implies, not_true_eq_false, not_false_eq_true, zc9, zc1, zc2, zc3, zc1000, nI_m9, nI_add, pk_mul, ix_nI, vpT, zk_zpi, zn_zpi, zr_zpi, zk_zpa, zn_zpa, zr_zpa, zsz_zpi, zsz_zpa, zi_zpa, zpi_pa, zpa_zpa, true_and, and_true, and_self, zk_MST, zn_MST, zr_MST, zsz_MST, zi_MST, zi_MST0, zpa_MST, zpa_MST0, zup_eq, zup_ne, mk, mr1, mr2, mr3, mr4, mr6, mr8, mk1, mk2, mk3, mk4, mk5, mk6, mn1, mn2, mn3, mn4, mn5, mn6, zb_eq0, zb_in0, inN_nI, i0, i1, i2, i3, i5, hthr])
    refine d_isTurn hm (by omega) i3 ?_
    simp (disch := omega) only [nI00, nI10, nI11, nI01, true_or, or_true, false_or, or_false, eq_self, true_implies, false_implies, not_true_eq_false, not_false_eq_true, zc9, zc1, zc2, zc3, zc1000, nI_m9, nI_add, pk_mul, ix_nI, vpT, zk_zpi, zn_zpi, zr_zpi, zk_zpa, zn_zpa, zr_zpa, zsz_zpi, zsz_zpa, zi_zpa, zpi_pa, zpa_zpa, true_and, and_true, and_self, mk, mr1, mr2, mr3, mr4, mr6, mr8, mk1, mk2, mk3, mk4, mk5, mk6, mn1, mn2, mn3, mn4, mn5, mn6, zk_MST, zn_MST, zr_MST, zsz_MST, zi_MST, zi_MST0, zpa_MST, zpa_MST0, zup_eq, zup_ne, zb_eq0, zb_in0, inN_nI, i0, i1, i2, i3, i5, hthr, eq_false ht]
    exact hq _ ⟨rfl, rfl, rfl, hz, rfl, rfl⟩
theorem p_later {E : zE} {Q : Int32 → zH → Prop} {m : Nat} {h : zH} {F : Nat → Nat → Int32} {nr nk n td s L : Nat} {k d x : Int32} (hm : MS h m) (hM : MI F s L) (hI : RI (F 1) nr nk n td) (hq : ∀ F', SME F F' → Q (qLat (F 1) (F 3) nr nk n td k d x) (MST h m F')) : zMi E mX9_later [.inr m, .inl k, .inl d, .inl x] (MST h m F) Q := by
  obtain ⟨mk, ⟨mr1, mr2, mr3, mr4, mr6, mr8⟩, ⟨mk1, mk2, mk3, mk4, mk5, mk6⟩, ⟨mn1, mn2, mn3, mn4, mn5, mn6⟩⟩ := id hm
  obtain ⟨i1, i2, i3, i0, hb, hT, hK⟩ := id hI
  obtain ⟨hz, i5, hs, i7, hL⟩ := id hM
  have hthr := thr_id hz
  unfold qLat at hq
  by_cases hk : inN k nk
  · by_cases hd : inN d 61
    · by_cases hx : inN x 7
      · obtain ⟨a, ha, rfl⟩ := (inN_iff (by omega)).mp hk
        obtain ⟨c, hc, rfl⟩ := (inN_iff (by omega)).mp hd
        obtain ⟨b, hb7, rfl⟩ := (inN_iff (by omega)).mp hx
        have hb6 : 0 ≤ b ∧ b ≤ 6 := by omega
        by_cases hl : td + c ≤ 199
        · simp (disch := omega) only [inN_nI, ha, hc, hb7, hl, nI_leI, and_self, if_true, ixx_nI] at hq
          (refine eX9_later 200 ?_; simp (disch := omega) only [↓wX9_later_0, ↓wX9_later_1, ↓wX9_later_2, ↓wX9_later_5, ↓wX9_later_6, ↓wX9_later_7, ↓wX9_later_10, ↓wX9_later_13, ↓wX9_later_14, ↓wX9_later_15, ↓wX9_later_17, ↓wX9_later_20, ↓wX9_later_23, ↓wX9_later_24, ↓wX9_later_25, ↓wX9_later_27, ↓wX9_later_30, ↓wX9_later_33, ↓wX9_later_34, ↓wX9_later_35, ↓wX9_later_36, ↓wX9_later_39, ↓wX9_later_40, ↓wX9_later_41, ↓wX9_later_42, ↓wX9_later_43, ↓wX9_later_46, ↓wX9_later_49, ↓wX9_later_51, ↓wX9_later_52, ↓wX9_later_53, ↓wX9_later_56, ↓wX9_later_57, ↓wX9_later_59, ↓wX9_later_60, ↓wX9_later_62, ↓wX9_later_64, ↓wX9_later_65, ↓wX9_later_68, ↓wX9_later_70, ↓wX9_later_71, ↓wX9_later_72, ↓wX9_later_75, ↓wX9_later_78, ↓wX9_later_79, ↓wX9_later_81, ↓wX9_later_84, ↓wX9_later_87, ↓wX9_later_89, ↓wX9_later_92, ↓wX9_later_94, ↓wX9_later_97, ↓wX9_later_98, ↓wX9_later_101, ↓wX9_later_102, ↓wX9_later_103, ↓wX9_later_106, zQi_def, zQa_def, zQv_def, nI00, nI10, nI11, nI01, true_or, or_true, false_or, or_false, eq_self, true_implies, false_implies, not_true_eq_false, not_false_eq_true, zc9, zc1, zc2, zc3, zc1000, nI_m9, nI_add, pk_mul, ix_nI, vpT, zk_zpi, zn_zpi, zr_zpi, zk_zpa, zn_zpa, zr_zpa, zsz_zpi, zsz_zpa, zi_zpa, zpi_pa, zpa_zpa, true_and, and_true, and_self, zk_MST, zn_MST, zr_MST, zsz_MST, zi_MST, zi_MST0, zpa_MST, zpa_MST0, zup_eq, zup_ne, mk, mr1, mr2, mr3, mr4, mr6, mr8, mk1, mk2, mk3, mk4, mk5, mk6, mn1, mn2, mn3, mn4, mn5, mn6, zb_eq0, zb_in0, inN_nI, i0, i1, i2, i3, i5, hthr])
          refine d_isKeeper hm (by omega) i2 ?_
          simp (disch := omega) only [nI00, nI10, nI11, nI01, true_or, or_true, false_or, or_false, eq_self, true_implies, false_implies, not_true_eq_false, not_false_eq_true, zc9, zc1, zc2, zc3, zc1000, nI_m9, nI_add, pk_mul, ix_nI, vpT, zk_zpi, zn_zpi, zr_zpi, zk_zpa, zn_zpa, zr_zpa, zsz_zpi, zsz_zpa, zi_zpa, zpi_pa, zpa_zpa, true_and, and_true, and_self, mk, mr1, mr2, mr3, mr4, mr6, mr8, mk1, mk2, mk3, mk4, mk5, mk6, mn1, mn2, mn3, mn4, mn5, mn6, zk_MST, zn_MST, zr_MST, zsz_MST, zi_MST, zi_MST0, zpa_MST, zpa_MST0, zup_eq, zup_ne, zb_eq0, zb_in0, inN_nI, i0, i1, i2, i3, i5, hthr, ha]
          refine c_in ?_
          simp (disch := omega) only [nI00, nI10, nI11, nI01, true_or, or_true, false_or, or_false, eq_self, true_implies, false_implies, not_true_eq_false, not_false_eq_true, zc9, zc1, zc2, zc3, zc1000, nI_m9, nI_add, pk_mul, ix_nI, vpT, zk_zpi, zn_zpi, zr_zpi, zk_zpa, zn_zpa, zr_zpa, zsz_zpi, zsz_zpa, zi_zpa, zpi_pa, zpa_zpa, true_and, and_true, and_self, mk, mr1, mr2, mr3, mr4, mr6, mr8, mk1, mk2, mk3, mk4, mk5, mk6, mn1, mn2, mn3, mn4, mn5, mn6, zk_MST, zn_MST, zr_MST, zsz_MST, zi_MST, zi_MST0, zpa_MST, zpa_MST0, zup_eq, zup_ne, zb_eq0, zb_in0, inN_nI, i0, i1, i2, i3, i5, hthr, hc]
          refine c_in ?_
          simp (disch := omega) only [nI00, nI10, nI11, nI01, true_or, or_true, false_or, or_false, eq_self, true_implies, false_implies, not_true_eq_false, not_false_eq_true, zc9, zc1, zc2, zc3, zc1000, nI_m9, nI_add, pk_mul, ix_nI, vpT, zk_zpi, zn_zpi, zr_zpi, zk_zpa, zn_zpa, zr_zpa, zsz_zpi, zsz_zpa, zi_zpa, zpi_pa, zpa_zpa, true_and, and_true, and_self, mk, mr1, mr2, mr3, mr4, mr6, mr8, mk1, mk2, mk3, mk4, mk5, mk6, mn1, mn2, mn3, mn4, mn5, mn6, zk_MST, zn_MST, zr_MST, zsz_MST, zi_MST, zi_MST0, zpa_MST, zpa_MST0, zup_eq, zup_ne, zb_eq0, zb_in0, inN_nI, i0, i1, i2, i3, i5, hthr, hb6, nI_leI, hl]
          refine d_tryNow hm hI ?_
          try simp (disch := omega) only [nI00, nI10, nI11, nI01, true_or, or_true, false_or, or_false, eq_self, true_implies, false_implies, not_true_eq_false, not_false_eq_true, zc9, zc1, zc2, zc3, zc1000, nI_m9, nI_add, pk_mul, ix_nI, vpT, zk_zpi, zn_zpi, zr_zpi, zk_zpa, zn_zpa, zr_zpa, zsz_zpi, zsz_zpa, zi_zpa, zpi_pa, zpa_zpa, true_and, and_true, and_self, zk_MST, zn_MST, zr_MST, zsz_MST, zi_MST, zi_MST0, zpa_MST, zpa_MST0, zup_eq, zup_ne, mk, mr1, mr2, mr3, mr4, mr6, mr8, mk1, mk2, mk3, mk4, mk5, mk6, mn1, mn2, mn3, mn4, mn5, mn6]
          refine l_later (n0 := 0) (nr := nr) (l3 := none) hm (by omega) ha hb7 c _ 0 n td 0 (by omega) (by omega) (by omega) ?_ ?_
          · simp (disch := omega) only [zup_eq]; exact RI_wF hI
          · intro R tg
            simp (disch := omega) only [zup_eq, zup_ne, zup_zup]
            exact hq _ (SME_w hz)
        · simp (disch := omega) only [inN_nI, ha, hc, hb7, hl, nI_leI, and_self, if_true, if_false, ixx_nI] at hq
          (refine eX9_later 200 ?_; simp (disch := omega) only [↓wX9_later_0, ↓wX9_later_1, ↓wX9_later_2, ↓wX9_later_5, ↓wX9_later_6, ↓wX9_later_7, ↓wX9_later_10, ↓wX9_later_13, ↓wX9_later_14, ↓wX9_later_15, ↓wX9_later_17, ↓wX9_later_20, ↓wX9_later_23, ↓wX9_later_24, ↓wX9_later_25, ↓wX9_later_27, ↓wX9_later_30, ↓wX9_later_33, ↓wX9_later_34, ↓wX9_later_35, ↓wX9_later_36, ↓wX9_later_39, ↓wX9_later_40, ↓wX9_later_41, ↓wX9_later_42, ↓wX9_later_43, ↓wX9_later_46, ↓wX9_later_49, ↓wX9_later_51, ↓wX9_later_52, ↓wX9_later_53, ↓wX9_later_56, ↓wX9_later_57, ↓wX9_later_59, ↓wX9_later_60, ↓wX9_later_62, ↓wX9_later_64, ↓wX9_later_65, ↓wX9_later_68, ↓wX9_later_70, ↓wX9_later_71, ↓wX9_later_72, ↓wX9_later_75, ↓wX9_later_78, ↓wX9_later_79, ↓wX9_later_81, ↓wX9_later_84, ↓wX9_later_87, ↓wX9_later_89, ↓wX9_later_92, ↓wX9_later_94, ↓wX9_later_97, ↓wX9_later_98, ↓wX9_later_101, ↓wX9_later_102, ↓wX9_later_103, ↓wX9_later_106, zQi_def, zQa_def, zQv_def, nI00, nI10, nI11, nI01, true_or, or_true, false_or, or_false, eq_self, true_implies, false_implies, not_true_eq_false, not_false_eq_true, zc9, zc1, zc2, zc3, zc1000, nI_m9, nI_add, pk_mul, ix_nI, vpT, zk_zpi, zn_zpi, zr_zpi, zk_zpa, zn_zpa, zr_zpa, zsz_zpi, zsz_zpa, zi_zpa, zpi_pa, zpa_zpa, true_and, and_true, and_self, zk_MST, zn_MST, zr_MST, zsz_MST, zi_MST, zi_MST0, zpa_MST, zpa_MST0, zup_eq, zup_ne, mk, mr1, mr2, mr3, mr4, mr6, mr8, mk1, mk2, mk3, mk4, mk5, mk6, mn1, mn2, mn3, mn4, mn5, mn6, zb_eq0, zb_in0, inN_nI, i0, i1, i2, i3, i5, hthr])
          refine d_isKeeper hm (by omega) i2 ?_
          simp (disch := omega) only [nI00, nI10, nI11, nI01, true_or, or_true, false_or, or_false, eq_self, true_implies, false_implies, not_true_eq_false, not_false_eq_true, zc9, zc1, zc2, zc3, zc1000, nI_m9, nI_add, pk_mul, ix_nI, vpT, zk_zpi, zn_zpi, zr_zpi, zk_zpa, zn_zpa, zr_zpa, zsz_zpi, zsz_zpa, zi_zpa, zpi_pa, zpa_zpa, true_and, and_true, and_self, mk, mr1, mr2, mr3, mr4, mr6, mr8, mk1, mk2, mk3, mk4, mk5, mk6, mn1, mn2, mn3, mn4, mn5, mn6, zk_MST, zn_MST, zr_MST, zsz_MST, zi_MST, zi_MST0, zpa_MST, zpa_MST0, zup_eq, zup_ne, zb_eq0, zb_in0, inN_nI, i0, i1, i2, i3, i5, hthr, ha]
          refine c_in ?_
          simp (disch := omega) only [nI00, nI10, nI11, nI01, true_or, or_true, false_or, or_false, eq_self, true_implies, false_implies, not_true_eq_false, not_false_eq_true, zc9, zc1, zc2, zc3, zc1000, nI_m9, nI_add, pk_mul, ix_nI, vpT, zk_zpi, zn_zpi, zr_zpi, zk_zpa, zn_zpa, zr_zpa, zsz_zpi, zsz_zpa, zi_zpa, zpi_pa, zpa_zpa, true_and, and_true, and_self, mk, mr1, mr2, mr3, mr4, mr6, mr8, mk1, mk2, mk3, mk4, mk5, mk6, mn1, mn2, mn3, mn4, mn5, mn6, zk_MST, zn_MST, zr_MST, zsz_MST, zi_MST, zi_MST0, zpa_MST, zpa_MST0, zup_eq, zup_ne, zb_eq0, zb_in0, inN_nI, i0, i1, i2, i3, i5, hthr, hc]
          refine c_in ?_
          simp (disch := omega) only [nI00, nI10, nI11, nI01, true_or, or_true, false_or, or_false, eq_self, true_implies, false_implies, not_true_eq_false, not_false_eq_true, zc9, zc1, zc2, zc3, zc1000, nI_m9, nI_add, pk_mul, ix_nI, vpT, zk_zpi, zn_zpi, zr_zpi, zk_zpa, zn_zpa, zr_zpa, zsz_zpi, zsz_zpa, zi_zpa, zpi_pa, zpa_zpa, true_and, and_true, and_self, mk, mr1, mr2, mr3, mr4, mr6, mr8, mk1, mk2, mk3, mk4, mk5, mk6, mn1, mn2, mn3, mn4, mn5, mn6, zk_MST, zn_MST, zr_MST, zsz_MST, zi_MST, zi_MST0, zpa_MST, zpa_MST0, zup_eq, zup_ne, zb_eq0, zb_in0, inN_nI, i0, i1, i2, i3, i5, hthr, hb6, nI_leI, hl]
          exact hq _ ⟨rfl, rfl, rfl, hz, rfl, rfl⟩
      · simp (disch := omega) only [eq_false hx, and_false, if_false] at hq
        (refine eX9_later 200 ?_; simp (disch := omega) only [↓wX9_later_0, ↓wX9_later_1, ↓wX9_later_2, ↓wX9_later_5, ↓wX9_later_6, ↓wX9_later_7, ↓wX9_later_10, ↓wX9_later_13, ↓wX9_later_14, ↓wX9_later_15, ↓wX9_later_17, ↓wX9_later_20, ↓wX9_later_23, ↓wX9_later_24, ↓wX9_later_25, ↓wX9_later_27, ↓wX9_later_30, ↓wX9_later_33, ↓wX9_later_34, ↓wX9_later_35, ↓wX9_later_36, ↓wX9_later_39, ↓wX9_later_40, ↓wX9_later_41, ↓wX9_later_42, ↓wX9_later_43, ↓wX9_later_46, ↓wX9_later_49, ↓wX9_later_51, ↓wX9_later_52, ↓wX9_later_53, ↓wX9_later_56, ↓wX9_later_57, ↓wX9_later_59, ↓wX9_later_60, ↓wX9_later_62, ↓wX9_later_64, ↓wX9_later_65, ↓wX9_later_68, ↓wX9_later_70, ↓wX9_later_71, ↓wX9_later_72, ↓wX9_later_75, ↓wX9_later_78, ↓wX9_later_79, ↓wX9_later_81, ↓wX9_later_84, ↓wX9_later_87, ↓wX9_later_89, ↓wX9_later_92, ↓wX9_later_94, ↓wX9_later_97, ↓wX9_later_98, ↓wX9_later_101, ↓wX9_later_102, ↓wX9_later_103, ↓wX9_later_106, zQi_def, zQa_def, zQv_def, nI00, nI10, nI11, nI01, true_or, or_true, false_or, or_false, eq_self, true_implies, false_implies, not_true_eq_false, not_false_eq_true, zc9, zc1, zc2, zc3, zc1000, nI_m9, nI_add, pk_mul, ix_nI, vpT, zk_zpi, zn_zpi, zr_zpi, zk_zpa, zn_zpa, zr_zpa, zsz_zpi, zsz_zpa, zi_zpa, zpi_pa, zpa_zpa, true_and, and_true, and_self, zk_MST, zn_MST, zr_MST, zsz_MST, zi_MST, zi_MST0, zpa_MST, zpa_MST0, zup_eq, zup_ne, mk, mr1, mr2, mr3, mr4, mr6, mr8, mk1, mk2, mk3, mk4, mk5, mk6, mn1, mn2, mn3, mn4, mn5, mn6, zb_eq0, zb_in0, inN_nI, i0, i1, i2, i3, i5, hthr])
        refine d_isKeeper hm (by omega) i2 ?_
        simp (disch := omega) only [nI00, nI10, nI11, nI01, true_or, or_true, false_or, or_false, eq_self, true_implies, false_implies, not_true_eq_false, not_false_eq_true, zc9, zc1, zc2, zc3, zc1000, nI_m9, nI_add, pk_mul, ix_nI, vpT, zk_zpi, zn_zpi, zr_zpi, zk_zpa, zn_zpa, zr_zpa, zsz_zpi, zsz_zpa, zi_zpa, zpi_pa, zpa_zpa, true_and, and_true, and_self, mk, mr1, mr2, mr3, mr4, mr6, mr8, mk1, mk2, mk3, mk4, mk5, mk6, mn1, mn2, mn3, mn4, mn5, mn6, zk_MST, zn_MST, zr_MST, zsz_MST, zi_MST, zi_MST0, zpa_MST, zpa_MST0, zup_eq, zup_ne, zb_eq0, zb_in0, inN_nI, i0, i1, i2, i3, i5, hthr, eq_true hk]
        refine c_in ?_
        simp (disch := omega) only [nI00, nI10, nI11, nI01, true_or, or_true, false_or, or_false, eq_self, true_implies, false_implies, not_true_eq_false, not_false_eq_true, zc9, zc1, zc2, zc3, zc1000, nI_m9, nI_add, pk_mul, ix_nI, vpT, zk_zpi, zn_zpi, zr_zpi, zk_zpa, zn_zpa, zr_zpa, zsz_zpi, zsz_zpa, zi_zpa, zpi_pa, zpa_zpa, true_and, and_true, and_self, mk, mr1, mr2, mr3, mr4, mr6, mr8, mk1, mk2, mk3, mk4, mk5, mk6, mn1, mn2, mn3, mn4, mn5, mn6, zk_MST, zn_MST, zr_MST, zsz_MST, zi_MST, zi_MST0, zpa_MST, zpa_MST0, zup_eq, zup_ne, zb_eq0, zb_in0, inN_nI, i0, i1, i2, i3, i5, hthr, eq_true hd]
        refine c_in ?_
        simp (disch := omega) only [nI00, nI10, nI11, nI01, true_or, or_true, false_or, or_false, eq_self, true_implies, false_implies, not_true_eq_false, not_false_eq_true, zc9, zc1, zc2, zc3, zc1000, nI_m9, nI_add, pk_mul, ix_nI, vpT, zk_zpi, zn_zpi, zr_zpi, zk_zpa, zn_zpa, zr_zpa, zsz_zpi, zsz_zpa, zi_zpa, zpi_pa, zpa_zpa, true_and, and_true, and_self, mk, mr1, mr2, mr3, mr4, mr6, mr8, mk1, mk2, mk3, mk4, mk5, mk6, mn1, mn2, mn3, mn4, mn5, mn6, zk_MST, zn_MST, zr_MST, zsz_MST, zi_MST, zi_MST0, zpa_MST, zpa_MST0, zup_eq, zup_ne, zb_eq0, zb_in0, inN_nI, i0, i1, i2, i3, i5, hthr, eq_false hx]
        exact hq _ ⟨rfl, rfl, rfl, hz, rfl, rfl⟩
    · simp (disch := omega) only [eq_false hd, false_and, and_false, if_false] at hq
      (refine eX9_later 200 ?_; simp (disch := omega) only [↓wX9_later_0, ↓wX9_later_1, ↓wX9_later_2, ↓wX9_later_5, ↓wX9_later_6, ↓wX9_later_7, ↓wX9_later_10, ↓wX9_later_13, ↓wX9_later_14, ↓wX9_later_15, ↓wX9_later_17, ↓wX9_later_20, ↓wX9_later_23, ↓wX9_later_24, ↓wX9_later_25, ↓wX9_later_27, ↓wX9_later_30, ↓wX9_later_33, ↓wX9_later_34, ↓wX9_later_35, ↓wX9_later_36, ↓wX9_later_39, ↓wX9_later_40, ↓wX9_later_41, ↓wX9_later_42, ↓wX9_later_43, ↓wX9_later_46, ↓wX9_later_49, ↓wX9_later_51, ↓wX9_later_52, ↓wX9_later_53, ↓wX9_later_56, ↓wX9_later_57, ↓wX9_later_59, ↓wX9_later_60, ↓wX9_later_62, ↓wX9_later_64, ↓wX9_later_65, ↓wX9_later_68, ↓wX9_later_70, ↓wX9_later_71, ↓wX9_later_72, ↓wX9_later_75, ↓wX9_later_78, ↓wX9_later_79, ↓wX9_later_81, ↓wX9_later_84, ↓wX9_later_87, ↓wX9_later_89, ↓wX9_later_92, ↓wX9_later_94, ↓wX9_later_97, ↓wX9_later_98, ↓wX9_later_101, ↓wX9_later_102, ↓wX9_later_103, ↓wX9_later_106, zQi_def, zQa_def, zQv_def, nI00, nI10, nI11, nI01, true_or, or_true, false_or, or_false, eq_self, true_implies, false_implies, not_true_eq_false, not_false_eq_true, zc9, zc1, zc2, zc3, zc1000, nI_m9, nI_add, pk_mul, ix_nI, vpT, zk_zpi, zn_zpi, zr_zpi, zk_zpa, zn_zpa, zr_zpa, zsz_zpi, zsz_zpa, zi_zpa, zpi_pa, zpa_zpa, true_and, and_true, and_self, zk_MST, zn_MST, zr_MST, zsz_MST, zi_MST, zi_MST0, zpa_MST, zpa_MST0, zup_eq, zup_ne, mk, mr1, mr2, mr3, mr4, mr6, mr8, mk1, mk2, mk3, mk4, mk5, mk6, mn1, mn2, mn3, mn4, mn5, mn6, zb_eq0, zb_in0, inN_nI, i0, i1, i2, i3, i5, hthr])
      refine d_isKeeper hm (by omega) i2 ?_
      simp (disch := omega) only [nI00, nI10, nI11, nI01, true_or, or_true, false_or, or_false, eq_self, true_implies, false_implies, not_true_eq_false, not_false_eq_true, zc9, zc1, zc2, zc3, zc1000, nI_m9, nI_add, pk_mul, ix_nI, vpT, zk_zpi, zn_zpi, zr_zpi, zk_zpa, zn_zpa, zr_zpa, zsz_zpi, zsz_zpa, zi_zpa, zpi_pa, zpa_zpa, true_and, and_true, and_self, mk, mr1, mr2, mr3, mr4, mr6, mr8, mk1, mk2, mk3, mk4, mk5, mk6, mn1, mn2, mn3, mn4, mn5, mn6, zk_MST, zn_MST, zr_MST, zsz_MST, zi_MST, zi_MST0, zpa_MST, zpa_MST0, zup_eq, zup_ne, zb_eq0, zb_in0, inN_nI, i0, i1, i2, i3, i5, hthr, eq_true hk]
      refine c_in ?_
      simp (disch := omega) only [nI00, nI10, nI11, nI01, true_or, or_true, false_or, or_false, eq_self, true_implies, false_implies, not_true_eq_false, not_false_eq_true, zc9, zc1, zc2, zc3, zc1000, nI_m9, nI_add, pk_mul, ix_nI, vpT, zk_zpi, zn_zpi, zr_zpi, zk_zpa, zn_zpa, zr_zpa, zsz_zpi, zsz_zpa, zi_zpa, zpi_pa, zpa_zpa, true_and, and_true, and_self, mk, mr1, mr2, mr3, mr4, mr6, mr8, mk1, mk2, mk3, mk4, mk5, mk6, mn1, mn2, mn3, mn4, mn5, mn6, zk_MST, zn_MST, zr_MST, zsz_MST, zi_MST, zi_MST0, zpa_MST, zpa_MST0, zup_eq, zup_ne, zb_eq0, zb_in0, inN_nI, i0, i1, i2, i3, i5, hthr, eq_false hd]
      exact hq _ ⟨rfl, rfl, rfl, hz, rfl, rfl⟩
  · simp (disch := omega) only [eq_false hk, false_and, if_false] at hq
    (refine eX9_later 200 ?_; simp (disch := omega) only [↓wX9_later_0, ↓wX9_later_1, ↓wX9_later_2, ↓wX9_later_5, ↓wX9_later_6, ↓wX9_later_7, ↓wX9_later_10, ↓wX9_later_13, ↓wX9_later_14, ↓wX9_later_15, ↓wX9_later_17, ↓wX9_later_20, ↓wX9_later_23, ↓wX9_later_24, ↓wX9_later_25, ↓wX9_later_27, ↓wX9_later_30, ↓wX9_later_33, ↓wX9_later_34, ↓wX9_later_35, ↓wX9_later_36, ↓wX9_later_39, ↓wX9_later_40, ↓wX9_later_41, ↓wX9_later_42, ↓wX9_later_43, ↓wX9_later_46, ↓wX9_later_49, ↓wX9_later_51, ↓wX9_later_52, ↓wX9_later_53, ↓wX9_later_56, ↓wX9_later_57, ↓wX9_later_59, ↓wX9_later_60, ↓wX9_later_62, ↓wX9_later_64, ↓wX9_later_65, ↓wX9_later_68, ↓wX9_later_70, ↓wX9_later_71, ↓wX9_later_72, ↓wX9_later_75, ↓wX9_later_78, ↓wX9_later_79, ↓wX9_later_81, ↓wX9_later_84, ↓wX9_later_87, ↓wX9_later_89, ↓wX9_later_92, ↓wX9_later_94, ↓wX9_later_97, ↓wX9_later_98, ↓wX9_later_101, ↓wX9_later_102, ↓wX9_later_103, ↓wX9_later_106, zQi_def, zQa_def, zQv_def, nI00, nI10, nI11, nI01, true_or, or_true, false_or, or_false, eq_self, true_implies, false_implies, not_true_eq_false, not_false_eq_true, zc9, zc1, zc2, zc3, zc1000, nI_m9, nI_add, pk_mul, ix_nI, vpT, zk_zpi, zn_zpi, zr_zpi, zk_zpa, zn_zpa, zr_zpa, zsz_zpi, zsz_zpa, zi_zpa, zpi_pa, zpa_zpa, true_and, and_true, and_self, zk_MST, zn_MST, zr_MST, zsz_MST, zi_MST, zi_MST0, zpa_MST, zpa_MST0, zup_eq, zup_ne, mk, mr1, mr2, mr3, mr4, mr6, mr8, mk1, mk2, mk3, mk4, mk5, mk6, mn1, mn2, mn3, mn4, mn5, mn6, zb_eq0, zb_in0, inN_nI, i0, i1, i2, i3, i5, hthr])
    refine d_isKeeper hm (by omega) i2 ?_
    simp (disch := omega) only [nI00, nI10, nI11, nI01, true_or, or_true, false_or, or_false, eq_self, true_implies, false_implies, not_true_eq_false, not_false_eq_true, zc9, zc1, zc2, zc3, zc1000, nI_m9, nI_add, pk_mul, ix_nI, vpT, zk_zpi, zn_zpi, zr_zpi, zk_zpa, zn_zpa, zr_zpa, zsz_zpi, zsz_zpa, zi_zpa, zpi_pa, zpa_zpa, true_and, and_true, and_self, mk, mr1, mr2, mr3, mr4, mr6, mr8, mk1, mk2, mk3, mk4, mk5, mk6, mn1, mn2, mn3, mn4, mn5, mn6, zk_MST, zn_MST, zr_MST, zsz_MST, zi_MST, zi_MST0, zpa_MST, zpa_MST0, zup_eq, zup_ne, zb_eq0, zb_in0, inN_nI, i0, i1, i2, i3, i5, hthr, eq_false hk]
    exact hq _ ⟨rfl, rfl, rfl, hz, rfl, rfl⟩
