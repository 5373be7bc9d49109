def inN (x : Int32) (n : Nat) : Bool := decide (0 ≤ x.toInt ∧ x.toInt < n)
theorem inN_def {x : Int32} {n : Nat} : (inN x n = true) = (0 ≤ x.toInt ∧ x.toInt < n) := by unfold inN; rw [decide_eq_true_eq]
theorem inN_iff {x : Int32} {n : Nat} (hn : n < 2147483648) : inN x n = true ↔ ∃ i, i < n ∧ x = nI i := by
  rw [inN_def]
  constructor
  · rintro ⟨h1, h2⟩
    obtain ⟨j, hj, e⟩ := i32of (n := n) h1 (by omega) hn
    refine ⟨j, ?_, e⟩
    rw [e, nIn (by omega)] at h2
    omega
  · rintro ⟨i, hi, rfl⟩
    rw [nIn (by omega)]
    omega
theorem in0 {x : Int32} {k : Nat} (hk : k < 2147483647) : (nI 0 ≤ x ∧ x ≤ nI k) = (inN x (k + 1) = true) := by
  rw [inN_def]
  rw [i32le, i32le, nIn (by omega), nIn (by omega)]
  apply propext; omega
theorem in1 {x : Int32} {k : Nat} (hk : k < 2147483647) : (nI 0 ≤ x ∧ x ≤ nI k - nI 1) = (inN x k = true) := by
  rw [inN_def]
  rw [i32le, i32le, nIn (by omega)]
  cases k with
  | zero => rw [show (nI 0 - nI 1).toInt = -1 by decide]; apply propext; omega
  | succ k => rw [pk_sub (by omega), nIn (by omega)]; apply propext; omega
theorem inN_nI {i n : Nat} (h : i < 2147483648) : (inN (nI i) n = true) = (i < n) := by
  rw [inN_def]
  rw [nIn (by omega)]
  apply propext; omega
theorem inN_m9 {n : Nat} : (inN (-9) n = true) = False := by
  rw [inN_def, i32_m9]; simp
theorem zb_in0 {x : Int32} {k : Nat} (hk : k < 2147483647) : zb (nI 0 ≤ x ∧ x ≤ nI k) = zb (inN x (k + 1)) := zb_iff (iff_of_eq (in0 hk))
theorem zb_in1 {x : Int32} {k : Nat} (hk : k < 2147483647) : zb (nI 0 ≤ x ∧ x ≤ nI k - nI 1) = zb (inN x k) := zb_iff (iff_of_eq (in1 hk))
theorem d_isRock {E : zE} {Q : Int32 → zH → Prop} {m nr : Nat} {x : Int32} {h : zH} {F : Nat → Nat → Int32} (hm : MS h m) (hn : nr ≤ 3) (h1 : F 1 1 = nI nr) (hq : Q (zb (inN x nr)) (MST h m F)) : zMi E mX9_isRock [.inr m, .inl x] (MST h m F) Q := by
  obtain ⟨mk, ⟨mr1, mr2, mr3, mr4, mr6, mr8⟩, ⟨mk1, mk2, mk3, mk4, mk5, mk6⟩, ⟨mn1, mn2, mn3, mn4, mn5, mn6⟩⟩ := id hm
  (refine eX9_isRock 200 ?_; simp (disch := omega) only [↓wX9_isRock_0, ↓wX9_isRock_1, ↓wX9_isRock_2, ↓wX9_isRock_3, ↓wX9_isRock_6, ↓wX9_isRock_7, ↓wX9_isRock_8, ↓wX9_isRock_9, ↓wX9_isRock_10, ↓wX9_isRock_13, zQi_def, zQa_def, zQv_def, nI00, nI10, nI11, nI01, true_or, or_true, false_or, or_false, eq_self, true_implies, false_implies, not_true_eq_false, not_false_eq_true, zc9, zc1, zc2, zc3, zc1000, nI_m9, nI_add, pk_mul, ix_nI, vpT, zk_zpi, zn_zpi, zr_zpi, zk_zpa, zn_zpa, zr_zpa, zsz_zpi, zsz_zpa, zi_zpa, zpi_pa, zpa_zpa, true_and, and_true, and_self, zk_MST, zn_MST, zr_MST, zsz_MST, zi_MST, zi_MST0, zpa_MST, zpa_MST0, zup_eq, zup_ne, mk, mr1, mr2, mr3, mr4, mr6, mr8, mk1, mk2, mk3, mk4, mk5, mk6, mn1, mn2, mn3, mn4, mn5, mn6, h1])
  refine c_in ?_
  simp (disch := omega) only [zb_in1, zb_01, true_and]
  exact hq
theorem d_isKeeper {E : zE} {Q : Int32 → zH → Prop} {m nk : Nat} {x : Int32} {h : zH} {F : Nat → Nat → Int32} (hm : MS h m) (hn : nk ≤ 8) (h1 : F 1 2 = nI nk) (hq : Q (zb (inN x nk)) (MST h m F)) : zMi E mX9_isKeeper [.inr m, .inl x] (MST h m F) Q := by
  obtain ⟨mk, ⟨mr1, mr2, mr3, mr4, mr6, mr8⟩, ⟨mk1, mk2, mk3, mk4, mk5, mk6⟩, ⟨mn1, mn2, mn3, mn4, mn5, mn6⟩⟩ := id hm
  (refine eX9_isKeeper 200 ?_; simp (disch := omega) only [↓wX9_isKeeper_0, ↓wX9_isKeeper_1, ↓wX9_isKeeper_2, ↓wX9_isKeeper_3, ↓wX9_isKeeper_6, ↓wX9_isKeeper_7, ↓wX9_isKeeper_8, ↓wX9_isKeeper_9, ↓wX9_isKeeper_10, ↓wX9_isKeeper_13, zQi_def, zQa_def, zQv_def, nI00, nI10, nI11, nI01, true_or, or_true, false_or, or_false, eq_self, true_implies, false_implies, not_true_eq_false, not_false_eq_true, zc9, zc1, zc2, zc3, zc1000, nI_m9, nI_add, pk_mul, ix_nI, vpT, zk_zpi, zn_zpi, zr_zpi, zk_zpa, zn_zpa, zr_zpa, zsz_zpi, zsz_zpa, zi_zpa, zpi_pa, zpa_zpa, true_and, and_true, and_self, zk_MST, zn_MST, zr_MST, zsz_MST, zi_MST, zi_MST0, zpa_MST, zpa_MST0, zup_eq, zup_ne, mk, mr1, mr2, mr3, mr4, mr6, mr8, mk1, mk2, mk3, mk4, mk5, mk6, mn1, mn2, mn3, mn4, mn5, mn6, h1])
  refine c_in ?_
  simp (disch := omega) only [zb_in1, zb_01, true_and]
  exact hq
theorem d_isTurn {E : zE} {Q : Int32 → zH → Prop} {m n : Nat} {x : Int32} {h : zH} {F : Nat → Nat → Int32} (hm : MS h m) (hn : n ≤ 12) (h1 : F 1 3 = nI n) (hq : Q (zb (inN x n)) (MST h m F)) : zMi E mX9_isTurn [.inr m, .inl x] (MST h m F) Q := by
  obtain ⟨mk, ⟨mr1, mr2, mr3, mr4, mr6, mr8⟩, ⟨mk1, mk2, mk3, mk4, mk5, mk6⟩, ⟨mn1, mn2, mn3, mn4, mn5, mn6⟩⟩ := id hm
  (refine eX9_isTurn 200 ?_; simp (disch := omega) only [↓wX9_isTurn_0, ↓wX9_isTurn_1, ↓wX9_isTurn_2, ↓wX9_isTurn_3, ↓wX9_isTurn_6, ↓wX9_isTurn_7, ↓wX9_isTurn_8, ↓wX9_isTurn_9, ↓wX9_isTurn_10, ↓wX9_isTurn_13, zQi_def, zQa_def, zQv_def, nI00, nI10, nI11, nI01, true_or, or_true, false_or, or_false, eq_self, true_implies, false_implies, not_true_eq_false, not_false_eq_true, zc9, zc1, zc2, zc3, zc1000, nI_m9, nI_add, pk_mul, ix_nI, vpT, zk_zpi, zn_zpi, zr_zpi, zk_zpa, zn_zpa, zr_zpa, zsz_zpi, zsz_zpa, zi_zpa, zpi_pa, zpa_zpa, true_and, and_true, and_self, zk_MST, zn_MST, zr_MST, zsz_MST, zi_MST, zi_MST0, zpa_MST, zpa_MST0, zup_eq, zup_ne, mk, mr1, mr2, mr3, mr4, mr6, mr8, mk1, mk2, mk3, mk4, mk5, mk6, mn1, mn2, mn3, mn4, mn5, mn6, h1])
  refine c_in ?_
  simp (disch := omega) only [zb_in1, zb_01, true_and]
  exact hq
theorem d_isDay {E : zE} {Q : Int32 → zH → Prop} {x : Int32} {h : zH} (hq : Q (zb (inN x 200)) h) : zMi E mX9_isDay [.inl x] h Q := by
  refine c_isDay ?_
  rw [show (0 : Int32) = nI 0 from rfl, zb_in0 (by omega)]
  exact hq
theorem d_isStore {E : zE} {Q : Int32 → zH → Prop} {m nr : Nat} {x y : Int32} {h : zH} {F : Nat → Nat → Int32} (hm : MS h m) (hn : nr ≤ 3) (h1 : F 1 1 = nI nr) (hq : Q (zb (inN x nr ∧ inN y 3)) (MST h m F)) : zMi E mX9_isStore [.inr m, .inl x, .inl y] (MST h m F) Q := by
  obtain ⟨mk, ⟨mr1, mr2, mr3, mr4, mr6, mr8⟩, ⟨mk1, mk2, mk3, mk4, mk5, mk6⟩, ⟨mn1, mn2, mn3, mn4, mn5, mn6⟩⟩ := id hm
  (refine eX9_isStore 200 ?_; simp (disch := omega) only [↓wX9_isStore_0, ↓wX9_isStore_1, ↓wX9_isStore_2, ↓wX9_isStore_5, ↓wX9_isStore_8, ↓wX9_isStore_9, ↓wX9_isStore_10, ↓wX9_isStore_11, ↓wX9_isStore_14, ↓wX9_isStore_17, ↓wX9_isStore_18, ↓wX9_isStore_21, ↓wX9_isStore_22, zQi_def, zQa_def, zQv_def, nI00, nI10, nI11, nI01, true_or, or_true, false_or, or_false, eq_self, true_implies, false_implies, not_true_eq_false, not_false_eq_true, zc9, zc1, zc2, zc3, zc1000, nI_m9, nI_add, pk_mul, ix_nI, vpT, zk_zpi, zn_zpi, zr_zpi, zk_zpa, zn_zpa, zr_zpa, zsz_zpi, zsz_zpa, zi_zpa, zpi_pa, zpa_zpa, true_and, and_true, and_self, zk_MST, zn_MST, zr_MST, zsz_MST, zi_MST, zi_MST0, zpa_MST, zpa_MST0, zup_eq, zup_ne, mk, mr1, mr2, mr3, mr4, mr6, mr8, mk1, mk2, mk3, mk4, mk5, mk6, mn1, mn2, mn3, mn4, mn5, mn6])
  refine d_isRock hm hn h1 ?_
  simp only [zb_eq0]
  by_cases hx : inN x nr
  · rw [show zb (inN x nr ∧ inN y 3) = zb (inN y 3) from zb_iff (and_iff_right hx)] at hq
    simp (disch := omega) only [eq_true hx, nI00, nI10, nI11, nI01, true_or, or_true, false_or, or_false, eq_self, true_implies, false_implies, not_true_eq_false, not_false_eq_true, zc9, zc1, zc2, zc3, zc1000, nI_m9, nI_add, pk_mul, ix_nI, vpT, zk_zpi, zn_zpi, zr_zpi, zk_zpa, zn_zpa, zr_zpa, zsz_zpi, zsz_zpa, zi_zpa, zpi_pa, zpa_zpa, true_and, and_true, and_self]
    refine c_in ?_
    simp (disch := omega) only [zb_in0, zb_eq0]
    by_cases hy : inN y 3
    · rw [zb_t hy] at hq
      simp (disch := omega) only [eq_true hy, nI00, nI10, nI11, nI01, true_or, or_true, false_or, or_false, eq_self, true_implies, false_implies, not_true_eq_false, not_false_eq_true, zc9, zc1, zc2, zc3, zc1000, nI_m9, nI_add, pk_mul, ix_nI, vpT, zk_zpi, zn_zpi, zr_zpi, zk_zpa, zn_zpa, zr_zpa, zsz_zpi, zsz_zpa, zi_zpa, zpi_pa, zpa_zpa, true_and, and_true, and_self]
      exact hq
    · rw [zb_f hy] at hq
      simp (disch := omega) only [eq_false hy, nI00, nI10, nI11, nI01, true_or, or_true, false_or, or_false, eq_self, true_implies, false_implies, not_true_eq_false, not_false_eq_true, zc9, zc1, zc2, zc3, zc1000, nI_m9, nI_add, pk_mul, ix_nI, vpT, zk_zpi, zn_zpi, zr_zpi, zk_zpa, zn_zpa, zr_zpa, zsz_zpi, zsz_zpa, zi_zpa, zpi_pa, zpa_zpa, true_and, and_true, and_self]
      exact hq
  · rw [zb_f (fun q => hx q.1)] at hq
    simp (disch := omega) only [eq_false hx, nI00, nI10, nI11, nI01, true_or, or_true, false_or, or_false, eq_self, true_implies, false_implies, not_true_eq_false, not_false_eq_true, zc9, zc1, zc2, zc3, zc1000, nI_m9, nI_add, pk_mul, ix_nI, vpT, zk_zpi, zn_zpi, zr_zpi, zk_zpa, zn_zpa, zr_zpa, zsz_zpi, zsz_zpa, zi_zpa, zpi_pa, zpa_zpa, true_and, and_true, and_self]
    exact hq
/-! putting a state by -/
def svF (F : Nat → Nat → Int32) (s : Nat) : Nat → Int32 := if s = 5 then va_cpy (F 1) (va_cpy (F 4) (F 4) 1301 0 5204) 0 5204 1301 else va_cpy (F 1) (F 4) 0 (1301 * s) 1301
def svN (s : Nat) : Nat := if s = 5 then 5 else s + 1
def actF (F : Nat → Nat → Int32) (s : Nat) : Nat → Nat → Int32 := zup (zup F 4 (svF F s)) 0 (zup (F 0) 5 (nI (svN s)))
theorem l_act2 {E : zE} {Q : zH → Prop} {m s : Nat} {h : zH} {sv : Nat → Int32} (hm : MS h m) (hs : s ≤ 4) {k' n' : Nat} (d : Nat) : ∀ (F : Nat → Nat → Int32) (i : Nat), i + d = 1301 → F 0 5 = nI s → F 4 = va_cpy (F 1) sv 0 (1301 * s) i →
    Q (MST h m (zup (zup F 4 (va_cpy (F 1) sv 0 (1301 * s) 1301)) 0 (zup (F 0) 5 (nI (s + 1))))) →
    zJ E mX9_act (zQv Q) 51 [some (.inr m), some (.inl (nI i))] [] (MST h m F) k' n' := by
  obtain ⟨mk, ⟨mr1, mr2, mr3, mr4, mr6, mr8⟩, ⟨mk1, mk2, mk3, mk4, mk5, mk6⟩, ⟨mn1, mn2, mn3, mn4, mn5, mn6⟩⟩ := id hm
  induction d with
  | zero =>
    intro F i hi h5 h4 hq
    obtain rfl : i = 1301 := by omega
    rw [← h4, zup_self] at hq
    (refine jX9_act 200 ?_; simp (disch := omega) only [↓wX9_act_0, ↓wX9_act_1, ↓wX9_act_4, ↓wX9_act_5, ↓wX9_act_8, ↓wX9_act_9, ↓wX9_act_10, ↓wX9_act_11, ↓wX9_act_14, ↓wX9_act_17, ↓wX9_act_18, ↓wX9_act_21, ↓wX9_act_22, ↓wX9_act_23, ↓wX9_act_26, ↓wX9_act_27, ↓wX9_act_30, ↓wX9_act_31, ↓wX9_act_32, ↓wX9_act_33, ↓wX9_act_36, ↓wX9_act_39, ↓wX9_act_40, ↓wX9_act_41, ↓wX9_act_44, ↓wX9_act_45, ↓wX9_act_46, ↓wX9_act_49, ↓wX9_act_50, ↓wX9_act_51, ↓wX9_act_52, ↓wX9_act_55, ↓wX9_act_58, ↓wX9_act_59, ↓wX9_act_62, ↓wX9_act_65, ↓wX9_act_66, ↓wX9_act_69, ↓wX9_act_70, ↓wX9_act_71, ↓wX9_act_72, ↓wX9_act_73, ↓wX9_act_76, ↓wX9_act_77, ↓wX9_act_78, ↓wX9_act_79, ↓wX9_act_82, ↓wX9_act_85, ↓wX9_act_86, ↓wX9_act_87, ↓wX9_act_90, ↓wX9_act_91, ↓wX9_act_92, ↓wX9_act_95, zQi_def, zQa_def, zQv_def, nI00, nI10, nI11, nI01, true_or, or_true, false_or, or_false, eq_self, true_implies, false_implies, not_true_eq_false, not_false_eq_true, zc9, zc1, zc2, zc3, zc1000, nI_m9, nI_add, pk_mul, ix_nI, vpT, zk_zpi, zn_zpi, zr_zpi, zk_zpa, zn_zpa, zr_zpa, zsz_zpi, zsz_zpa, zi_zpa, zpi_pa, zpa_zpa, true_and, and_true, and_self, zk_MST, zn_MST, zr_MST, zsz_MST, zi_MST, zi_MST0, zpa_MST, zpa_MST0, zup_eq, zup_ne, mk, mr1, mr2, mr3, mr4, mr6, mr8, mk1, mk2, mk3, mk4, mk5, mk6, mn1, mn2, mn3, mn4, mn5, mn6, nI_leI, Nat.le_refl, h5])
    exact hq
  | succ d ih =>
    intro F i hi h5 h4 hq
    have hle : ¬ 1301 ≤ i := by omega
    (refine jX9_act 200 ?_; simp (disch := omega) only [↓wX9_act_0, ↓wX9_act_1, ↓wX9_act_4, ↓wX9_act_5, ↓wX9_act_8, ↓wX9_act_9, ↓wX9_act_10, ↓wX9_act_11, ↓wX9_act_14, ↓wX9_act_17, ↓wX9_act_18, ↓wX9_act_21, ↓wX9_act_22, ↓wX9_act_23, ↓wX9_act_26, ↓wX9_act_27, ↓wX9_act_30, ↓wX9_act_31, ↓wX9_act_32, ↓wX9_act_33, ↓wX9_act_36, ↓wX9_act_39, ↓wX9_act_40, ↓wX9_act_41, ↓wX9_act_44, ↓wX9_act_45, ↓wX9_act_46, ↓wX9_act_49, ↓wX9_act_50, ↓wX9_act_51, ↓wX9_act_52, ↓wX9_act_55, ↓wX9_act_58, ↓wX9_act_59, ↓wX9_act_62, ↓wX9_act_65, ↓wX9_act_66, ↓wX9_act_69, ↓wX9_act_70, ↓wX9_act_71, ↓wX9_act_72, ↓wX9_act_73, ↓wX9_act_76, ↓wX9_act_77, ↓wX9_act_78, ↓wX9_act_79, ↓wX9_act_82, ↓wX9_act_85, ↓wX9_act_86, ↓wX9_act_87, ↓wX9_act_90, ↓wX9_act_91, ↓wX9_act_92, ↓wX9_act_95, zQi_def, zQa_def, zQv_def, nI00, nI10, nI11, nI01, true_or, or_true, false_or, or_false, eq_self, true_implies, false_implies, not_true_eq_false, not_false_eq_true, zc9, zc1, zc2, zc3, zc1000, nI_m9, nI_add, pk_mul, ix_nI, vpT, zk_zpi, zn_zpi, zr_zpi, zk_zpa, zn_zpa, zr_zpa, zsz_zpi, zsz_zpa, zi_zpa, zpi_pa, zpa_zpa, true_and, and_true, and_self, zk_MST, zn_MST, zr_MST, zsz_MST, zi_MST, zi_MST0, zpa_MST, zpa_MST0, zup_eq, zup_ne, mk, mr1, mr2, mr3, mr4, mr6, mr8, mk1, mk2, mk3, mk4, mk5, mk6, mn1, mn2, mn3, mn4, mn5, mn6, nI_leI, hle, h5])
    refine ih _ (i + 1) (by omega) ?_ ?_ ?_
    · simp (disch := omega) only [zup_ne]; exact h5
    · simp (disch := omega) only [zup_eq, zup_ne]
      rw [cpy_succ, ← h4, Nat.zero_add]
    · simp (disch := omega) only [zup_eq, zup_ne, zup_zup]; exact hq
theorem l_act1 {E : zE} {Q : zH → Prop} {m : Nat} {h : zH} {sv : Nat → Int32} (hm : MS h m) {k' n' : Nat} (d : Nat) : ∀ (F : Nat → Nat → Int32) (i : Nat), i + d = 5204 → F 0 5 = nI 5 → F 4 = va_cpy sv sv 1301 0 i →
    (∀ l, zJ E mX9_act (zQv Q) 51 [some (.inr m), l] [] (MST h m (zup (zup F 4 (va_cpy sv sv 1301 0 5204)) 0 (zup (F 0) 5 (nI 4)))) k' n' → True) →
    zJ E mX9_act (zQv Q) 51 [some (.inr m), some (.inl (nI 0))] [] (MST h m (zup (zup F 4 (va_cpy sv sv 1301 0 5204)) 0 (zup (F 0) 5 (nI 4)))) k' n' →
    zJ E mX9_act (zQv Q) 10 [some (.inr m), some (.inl (nI i))] [] (MST h m F) k' n' := by
  obtain ⟨mk, ⟨mr1, mr2, mr3, mr4, mr6, mr8⟩, ⟨mk1, mk2, mk3, mk4, mk5, mk6⟩, ⟨mn1, mn2, mn3, mn4, mn5, mn6⟩⟩ := id hm
  induction d with
  | zero =>
    intro F i hi h5 h4 _ hq
    obtain rfl : i = 5204 := by omega
    rw [← h4, zup_self] at hq
    (refine jX9_act 200 ?_; simp (disch := omega) only [↓wX9_act_0, ↓wX9_act_1, ↓wX9_act_4, ↓wX9_act_5, ↓wX9_act_8, ↓wX9_act_9, ↓wX9_act_10, ↓wX9_act_11, ↓wX9_act_14, ↓wX9_act_17, ↓wX9_act_18, ↓wX9_act_21, ↓wX9_act_22, ↓wX9_act_23, ↓wX9_act_26, ↓wX9_act_27, ↓wX9_act_30, ↓wX9_act_31, ↓wX9_act_32, ↓wX9_act_33, ↓wX9_act_36, ↓wX9_act_39, ↓wX9_act_40, ↓wX9_act_41, ↓wX9_act_44, ↓wX9_act_45, ↓wX9_act_46, ↓wX9_act_49, ↓wX9_act_50, ↓wX9_act_51, ↓wX9_act_52, ↓wX9_act_55, ↓wX9_act_58, ↓wX9_act_59, ↓wX9_act_62, ↓wX9_act_65, ↓wX9_act_66, ↓wX9_act_69, ↓wX9_act_70, ↓wX9_act_71, ↓wX9_act_72, ↓wX9_act_73, ↓wX9_act_76, ↓wX9_act_77, ↓wX9_act_78, ↓wX9_act_79, ↓wX9_act_82, ↓wX9_act_85, ↓wX9_act_86, ↓wX9_act_87, ↓wX9_act_90, ↓wX9_act_91, ↓wX9_act_92, ↓wX9_act_95, zQi_def, zQa_def, zQv_def, nI00, nI10, nI11, nI01, true_or, or_true, false_or, or_false, eq_self, true_implies, false_implies, not_true_eq_false, not_false_eq_true, zc9, zc1, zc2, zc3, zc1000, nI_m9, nI_add, pk_mul, ix_nI, vpT, zk_zpi, zn_zpi, zr_zpi, zk_zpa, zn_zpa, zr_zpa, zsz_zpi, zsz_zpa, zi_zpa, zpi_pa, zpa_zpa, true_and, and_true, and_self, zk_MST, zn_MST, zr_MST, zsz_MST, zi_MST, zi_MST0, zpa_MST, zpa_MST0, zup_eq, zup_ne, mk, mr1, mr2, mr3, mr4, mr6, mr8, mk1, mk2, mk3, mk4, mk5, mk6, mn1, mn2, mn3, mn4, mn5, mn6, nI_leI, Nat.le_refl, h5, pk_sub])
    exact hq
  | succ d ih =>
    intro F i hi h5 h4 _ hq
    have hle : ¬ 5204 ≤ i := by omega
    (refine jX9_act 200 ?_; simp (disch := omega) only [↓wX9_act_0, ↓wX9_act_1, ↓wX9_act_4, ↓wX9_act_5, ↓wX9_act_8, ↓wX9_act_9, ↓wX9_act_10, ↓wX9_act_11, ↓wX9_act_14, ↓wX9_act_17, ↓wX9_act_18, ↓wX9_act_21, ↓wX9_act_22, ↓wX9_act_23, ↓wX9_act_26, ↓wX9_act_27, ↓wX9_act_30, ↓wX9_act_31, ↓wX9_act_32, ↓wX9_act_33, ↓wX9_act_36, ↓wX9_act_39, ↓wX9_act_40, ↓wX9_act_41, ↓wX9_act_44, ↓wX9_act_45, ↓wX9_act_46, ↓wX9_act_49, ↓wX9_act_50, ↓wX9_act_51, ↓wX9_act_52, ↓wX9_act_55, ↓wX9_act_58, ↓wX9_act_59, ↓wX9_act_62, ↓wX9_act_65, ↓wX9_act_66, ↓wX9_act_69, ↓wX9_act_70, ↓wX9_act_71, ↓wX9_act_72, ↓wX9_act_73, ↓wX9_act_76, ↓wX9_act_77, ↓wX9_act_78, ↓wX9_act_79, ↓wX9_act_82, ↓wX9_act_85, ↓wX9_act_86, ↓wX9_act_87, ↓wX9_act_90, ↓wX9_act_91, ↓wX9_act_92, ↓wX9_act_95, zQi_def, zQa_def, zQv_def, nI00, nI10, nI11, nI01, true_or, or_true, false_or, or_false, eq_self, true_implies, false_implies, not_true_eq_false, not_false_eq_true, zc9, zc1, zc2, zc3, zc1000, nI_m9, nI_add, pk_mul, ix_nI, vpT, zk_zpi, zn_zpi, zr_zpi, zk_zpa, zn_zpa, zr_zpa, zsz_zpi, zsz_zpa, zi_zpa, zpi_pa, zpa_zpa, true_and, and_true, and_self, zk_MST, zn_MST, zr_MST, zsz_MST, zi_MST, zi_MST0, zpa_MST, zpa_MST0, zup_eq, zup_ne, mk, mr1, mr2, mr3, mr4, mr6, mr8, mk1, mk2, mk3, mk4, mk5, mk6, mn1, mn2, mn3, mn4, mn5, mn6, nI_leI, hle, h5])
    refine ih _ (i + 1) (by omega) ?_ ?_ (fun _ _ => trivial) ?_
    · simp (disch := omega) only [zup_ne]; exact h5
    · simp (disch := omega) only [zup_eq, zup_ne]
      rw [cpy_succ, ← h4, h4, pk_cpy_out (j := i + 1301) (by omega), Nat.zero_add, Nat.add_comm 1301 i]
    · simp (disch := omega) only [zup_eq, zup_ne, zup_zup]; exact hq
theorem d_act {E : zE} {Q : zH → Prop} {m s : Nat} {h : zH} {F : Nat → Nat → Int32} (hm : MS h m) (hs : s ≤ 5) (h5 : F 0 5 = nI s) (hq : Q (MST h m (actF F s))) : zMv E mX9_act [.inr m] (MST h m F) Q := by
  obtain ⟨mk, ⟨mr1, mr2, mr3, mr4, mr6, mr8⟩, ⟨mk1, mk2, mk3, mk4, mk5, mk6⟩, ⟨mn1, mn2, mn3, mn4, mn5, mn6⟩⟩ := id hm
  unfold actF svF svN at hq
  by_cases e : s = 5
  · subst e
    simp only [if_true] at hq
    (refine eX9_act 200 ?_; simp (disch := omega) only [↓wX9_act_0, ↓wX9_act_1, ↓wX9_act_4, ↓wX9_act_5, ↓wX9_act_8, ↓wX9_act_9, ↓wX9_act_10, ↓wX9_act_11, ↓wX9_act_14, ↓wX9_act_17, ↓wX9_act_18, ↓wX9_act_21, ↓wX9_act_22, ↓wX9_act_23, ↓wX9_act_26, ↓wX9_act_27, ↓wX9_act_30, ↓wX9_act_31, ↓wX9_act_32, ↓wX9_act_33, ↓wX9_act_36, ↓wX9_act_39, ↓wX9_act_40, ↓wX9_act_41, ↓wX9_act_44, ↓wX9_act_45, ↓wX9_act_46, ↓wX9_act_49, ↓wX9_act_50, ↓wX9_act_51, ↓wX9_act_52, ↓wX9_act_55, ↓wX9_act_58, ↓wX9_act_59, ↓wX9_act_62, ↓wX9_act_65, ↓wX9_act_66, ↓wX9_act_69, ↓wX9_act_70, ↓wX9_act_71, ↓wX9_act_72, ↓wX9_act_73, ↓wX9_act_76, ↓wX9_act_77, ↓wX9_act_78, ↓wX9_act_79, ↓wX9_act_82, ↓wX9_act_85, ↓wX9_act_86, ↓wX9_act_87, ↓wX9_act_90, ↓wX9_act_91, ↓wX9_act_92, ↓wX9_act_95, zQi_def, zQa_def, zQv_def, nI00, nI10, nI11, nI01, true_or, or_true, false_or, or_false, eq_self, true_implies, false_implies, not_true_eq_false, not_false_eq_true, zc9, zc1, zc2, zc3, zc1000, nI_m9, nI_add, pk_mul, ix_nI, vpT, zk_zpi, zn_zpi, zr_zpi, zk_zpa, zn_zpa, zr_zpa, zsz_zpi, zsz_zpa, zi_zpa, zpi_pa, zpa_zpa, true_and, and_true, and_self, zk_MST, zn_MST, zr_MST, zsz_MST, zi_MST, zi_MST0, zpa_MST, zpa_MST0, zup_eq, zup_ne, mk, mr1, mr2, mr3, mr4, mr6, mr8, mk1, mk2, mk3, mk4, mk5, mk6, mn1, mn2, mn3, mn4, mn5, mn6, nI_eq, h5, nI_leI])
    refine l_act1 (sv := F 4) hm 5204 F 0 (by omega) h5 (cpy_0 _ _ _ _).symm (fun _ _ => trivial) ?_
    refine l_act2 (s := 4) (sv := va_cpy (F 4) (F 4) 1301 0 5204) hm (by omega) 1301 _ 0 (by omega) ?_ ?_ ?_
    · simp (disch := omega) only [zup_eq, zup_ne]
    · simp (disch := omega) only [zup_eq, zup_ne]; exact (cpy_0 _ _ _ _).symm
    · simp (disch := omega) only [zup_eq, zup_ne, zup_zup]
      refine cast (congrArg Q ?_) hq
      congr 1
      funext q
      unfold zup
      grind
  · simp only [if_neg e] at hq
    (refine eX9_act 200 ?_; simp (disch := omega) only [↓wX9_act_0, ↓wX9_act_1, ↓wX9_act_4, ↓wX9_act_5, ↓wX9_act_8, ↓wX9_act_9, ↓wX9_act_10, ↓wX9_act_11, ↓wX9_act_14, ↓wX9_act_17, ↓wX9_act_18, ↓wX9_act_21, ↓wX9_act_22, ↓wX9_act_23, ↓wX9_act_26, ↓wX9_act_27, ↓wX9_act_30, ↓wX9_act_31, ↓wX9_act_32, ↓wX9_act_33, ↓wX9_act_36, ↓wX9_act_39, ↓wX9_act_40, ↓wX9_act_41, ↓wX9_act_44, ↓wX9_act_45, ↓wX9_act_46, ↓wX9_act_49, ↓wX9_act_50, ↓wX9_act_51, ↓wX9_act_52, ↓wX9_act_55, ↓wX9_act_58, ↓wX9_act_59, ↓wX9_act_62, ↓wX9_act_65, ↓wX9_act_66, ↓wX9_act_69, ↓wX9_act_70, ↓wX9_act_71, ↓wX9_act_72, ↓wX9_act_73, ↓wX9_act_76, ↓wX9_act_77, ↓wX9_act_78, ↓wX9_act_79, ↓wX9_act_82, ↓wX9_act_85, ↓wX9_act_86, ↓wX9_act_87, ↓wX9_act_90, ↓wX9_act_91, ↓wX9_act_92, ↓wX9_act_95, zQi_def, zQa_def, zQv_def, nI00, nI10, nI11, nI01, true_or, or_true, false_or, or_false, eq_self, true_implies, false_implies, not_true_eq_false, not_false_eq_true, zc9, zc1, zc2, zc3, zc1000, nI_m9, nI_add, pk_mul, ix_nI, vpT, zk_zpi, zn_zpi, zr_zpi, zk_zpa, zn_zpa, zr_zpa, zsz_zpi, zsz_zpa, zi_zpa, zpi_pa, zpa_zpa, true_and, and_true, and_self, zk_MST, zn_MST, zr_MST, zsz_MST, zi_MST, zi_MST0, zpa_MST, zpa_MST0, zup_eq, zup_ne, mk, mr1, mr2, mr3, mr4, mr6, mr8, mk1, mk2, mk3, mk4, mk5, mk6, mn1, mn2, mn3, mn4, mn5, mn6, nI_eq, h5, e])
    refine l_act2 (sv := F 4) hm (by omega) 1301 _ 0 (by omega) h5 (cpy_0 _ _ _ _).symm hq
