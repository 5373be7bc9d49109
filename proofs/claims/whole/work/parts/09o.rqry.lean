theorem ct_zero {p : Nat → Prop} [DecidablePred p] {n : Nat} : 0 < ct p n ↔ ∃ k, k < n ∧ p k := by
  induction n with
  | zero => unfold ct; constructor
            · intro h; omega
            · rintro ⟨k, hk, -⟩; omega
  | succ n ih =>
    unfold ct
    constructor
    · intro h
      by_cases hp : p n
      · exact ⟨n, by omega, hp⟩
      · rw [if_neg hp] at h
        obtain ⟨k, h1, h2⟩ := ih.mp h
        exact ⟨k, by omega, h2⟩
    · rintro ⟨k, h1, h2⟩
      by_cases hk : k = n
      · subst hk; rw [if_pos h2]; omega
      · have := ih.mpr ⟨k, by omega, h2⟩
        omega
theorem nI_neg1 {j : Nat} : nI j + -1 = nI j - nI 1 := by
  rw [Int32.sub_eq_add_neg]; rfl
theorem i32k {x : Int32} {k : Nat} (hk : k < 2147483648) (h : x.toInt = (k : Int)) : x = nI k := by rw [i32eq, nIn hk]; exact h
def qCnt (f : Nat → Int32) (nk s L : Nat) (x : Int32) : Int32 :=
  if x.toInt = 0 then f 0 else if x.toInt = 1 then f 1 else if x.toInt = 2 then f 2 else if x.toInt = 3 then f 3 else if x.toInt = 4 then nI (kO f (-9) nk)
  else if x.toInt = 5 then f 4 else if x.toInt = 6 then f 5 else if x.toInt = 7 then f 6 else if x.toInt = 8 then f 433 + f 867 else if x.toInt = 9 then nI s else if x.toInt = 10 then nI L else -1
def tO (f : Nat → Int32) (x : Int32) (n : Nat) : Nat := ct (fun k => f (337 + 8 * k + 1) = x) n
def hT_ (f : Nat → Int32) (x : Int32) (p n : Nat) : Nat := ct (fun k => f (337 + 8 * k + p) = x) n
theorem l_turnsFor {E : zE} {Q : Int32 → zH → Prop} {m n : Nat} {x : Int32} {h : zH} {F : Nat → Nat → Int32} {k' n' : Nat} (hm : MS h m) (hn : n ≤ 12) (h3 : F 1 3 = nI n) (hq : Q (nI (tO (F 1) x n)) (MST h m F)) (d : Nat) : ∀ i, i + d = n → zJ E mX9_turnsFor (zQi Q) 4 [some (.inr m), some (.inl x), some (.inl (nI (tO (F 1) x i))), some (.inl (nI i))] [] (MST h m F) k' n' := by
  obtain ⟨mk, ⟨mr1, mr2, mr3, mr4, mr6, mr8⟩, ⟨mk1, mk2, mk3, mk4, mk5, mk6⟩, ⟨mn1, mn2, mn3, mn4, mn5, mn6⟩⟩ := id hm
  have har : AR (MST h m F) (m + 1) := AR_MS hm (by omega)
  induction d with
  | zero =>
    intro i hi
    obtain rfl : i = n := by omega
    (refine jX9_turnsFor 200 ?_; simp (disch := omega) only [↓wX9_turnsFor_0, ↓wX9_turnsFor_1, ↓wX9_turnsFor_2, ↓wX9_turnsFor_3, ↓wX9_turnsFor_4, ↓wX9_turnsFor_5, ↓wX9_turnsFor_6, ↓wX9_turnsFor_9, ↓wX9_turnsFor_10, ↓wX9_turnsFor_11, ↓wX9_turnsFor_14, ↓wX9_turnsFor_15, ↓wX9_turnsFor_16, ↓wX9_turnsFor_19, ↓wX9_turnsFor_20, ↓wX9_turnsFor_21, ↓wX9_turnsFor_24, ↓wX9_turnsFor_25, ↓wX9_turnsFor_28, ↓wX9_turnsFor_29, ↓wX9_turnsFor_32, ↓wX9_turnsFor_33, ↓wX9_turnsFor_34, ↓wX9_turnsFor_35, ↓wX9_turnsFor_38, ↓wX9_turnsFor_41, ↓wX9_turnsFor_42, zQi_def, zQa_def, zQv_def, nI00, nI10, nI11, nI01, true_or, or_true, false_or, or_false, eq_self, true_implies, false_implies, not_true_eq_false, not_false_eq_true, zc9, zc1, zc2, zc3, zc1000, nI_m9, nI_add, pk_mul, ix_nI, vpT, zk_zpi, zn_zpi, zr_zpi, zk_zpa, zn_zpa, zr_zpa, zsz_zpi, zsz_zpa, zi_zpa, zpi_pa, zpa_zpa, true_and, and_true, and_self, zk_MST, zn_MST, zr_MST, zsz_MST, zi_MST, zi_MST0, zpa_MST, zpa_MST0, zup_eq, zup_ne, mk, mr1, mr2, mr3, mr4, mr6, mr8, mk1, mk2, mk3, mk4, mk5, mk6, mn1, mn2, mn3, mn4, mn5, mn6, h3, nI_leI, Nat.le_refl])
    exact hq
  | succ d ih =>
    intro i hi
    have hle : ¬ n ≤ i := by omega
    have key : tO (F 1) x (i + 1) = tO (F 1) x i + if F 1 (337 + 8 * i + 1) = x then 1 else 0 := rfl
    (refine jX9_turnsFor 200 ?_; simp (disch := omega) only [↓wX9_turnsFor_0, ↓wX9_turnsFor_1, ↓wX9_turnsFor_2, ↓wX9_turnsFor_3, ↓wX9_turnsFor_4, ↓wX9_turnsFor_5, ↓wX9_turnsFor_6, ↓wX9_turnsFor_9, ↓wX9_turnsFor_10, ↓wX9_turnsFor_11, ↓wX9_turnsFor_14, ↓wX9_turnsFor_15, ↓wX9_turnsFor_16, ↓wX9_turnsFor_19, ↓wX9_turnsFor_20, ↓wX9_turnsFor_21, ↓wX9_turnsFor_24, ↓wX9_turnsFor_25, ↓wX9_turnsFor_28, ↓wX9_turnsFor_29, ↓wX9_turnsFor_32, ↓wX9_turnsFor_33, ↓wX9_turnsFor_34, ↓wX9_turnsFor_35, ↓wX9_turnsFor_38, ↓wX9_turnsFor_41, ↓wX9_turnsFor_42, zQi_def, zQa_def, zQv_def, nI00, nI10, nI11, nI01, true_or, or_true, false_or, or_false, eq_self, true_implies, false_implies, not_true_eq_false, not_false_eq_true, zc9, zc1, zc2, zc3, zc1000, nI_m9, nI_add, pk_mul, ix_nI, vpT, zk_zpi, zn_zpi, zr_zpi, zk_zpa, zn_zpa, zr_zpa, zsz_zpi, zsz_zpa, zi_zpa, zpi_pa, zpa_zpa, true_and, and_true, and_self, zk_MST, zn_MST, zr_MST, zsz_MST, zi_MST, zi_MST0, zpa_MST, zpa_MST0, zup_eq, zup_ne, mk, mr1, mr2, mr3, mr4, mr6, mr8, mk1, mk2, mk3, mk4, mk5, mk6, mn1, mn2, mn3, mn4, mn5, mn6, h3, nI_leI, hle])
    repeat' (first | (with_reducible assumption) | (with_reducible decide) | (simp (disch := omega) only [nI00, nI10, nI11, nI01, true_or, or_true, false_or, or_false, eq_self, true_implies, false_implies, not_true_eq_false, not_false_eq_true, zc9, zc1, zc2, zc3, zc1000, nI_m9, nI_add, pk_mul, ix_nI, vpT, zk_zpi, zn_zpi, zr_zpi, zk_zpa, zn_zpa, zr_zpa, zsz_zpi, zsz_zpa, zi_zpa, zpi_pa, zpa_zpa, true_and, and_true, and_self, zk_MST, zn_MST, zr_MST, zsz_MST, zi_MST, zi_MST0, zpa_MST, zpa_MST0, zup_eq, zup_ne, mk, mr1, mr2, mr3, mr4, mr6, mr8, mk1, mk2, mk3, mk4, mk5, mk6, mn1, mn2, mn3, mn4, mn5, mn6]) | (with_reducible apply And.intro) | (with_reducible intro _) | (refine c_in ?_) | (refine c_less ?_) | (refine c_ofRock (by assumption) (by omega) (by omega) ?_) | (refine c_ofKeeper (by assumption) (by omega) (by omega) ?_) | (refine c_setKeeper (by assumption) (by omega) (by omega) ?_) | (refine c_ofTurn (by assumption) (by omega) (by omega) ?_) | (refine c_setTurn (by assumption) (by omega) (by omega) ?_) | (refine c_storeAt ?_))
    all_goals (first | (rw [if_pos (by assumption)] at key; have t := ih (i + 1) (by omega); rw [key] at t; exact t) | (rw [if_neg (by assumption)] at key; have t := ih (i + 1) (by omega); rw [key] at t; exact t))
theorem d_turnsFor {E : zE} {Q : Int32 → zH → Prop} {m n : Nat} {x : Int32} {h : zH} {F : Nat → Nat → Int32} (hm : MS h m) (hn : n ≤ 12) (h3 : F 1 3 = nI n) (hq : Q (nI (tO (F 1) x n)) (MST h m F)) : zMi E mX9_turnsFor [.inr m, .inl x] (MST h m F) Q := by
  (refine eX9_turnsFor 200 ?_; simp (disch := omega) only [↓wX9_turnsFor_0, ↓wX9_turnsFor_1, ↓wX9_turnsFor_2, ↓wX9_turnsFor_3, ↓wX9_turnsFor_4, ↓wX9_turnsFor_5, ↓wX9_turnsFor_6, ↓wX9_turnsFor_9, ↓wX9_turnsFor_10, ↓wX9_turnsFor_11, ↓wX9_turnsFor_14, ↓wX9_turnsFor_15, ↓wX9_turnsFor_16, ↓wX9_turnsFor_19, ↓wX9_turnsFor_20, ↓wX9_turnsFor_21, ↓wX9_turnsFor_24, ↓wX9_turnsFor_25, ↓wX9_turnsFor_28, ↓wX9_turnsFor_29, ↓wX9_turnsFor_32, ↓wX9_turnsFor_33, ↓wX9_turnsFor_34, ↓wX9_turnsFor_35, ↓wX9_turnsFor_38, ↓wX9_turnsFor_41, ↓wX9_turnsFor_42, zQi_def, zQa_def, zQv_def, nI00, nI10, nI11, nI01, true_or, or_true, false_or, or_false, eq_self, true_implies, false_implies, not_true_eq_false, not_false_eq_true, zc9, zc1, zc2, zc3, zc1000, nI_m9, nI_add, pk_mul, ix_nI, vpT, zk_zpi, zn_zpi, zr_zpi, zk_zpa, zn_zpa, zr_zpa, zsz_zpi, zsz_zpa, zi_zpa, zpi_pa, zpa_zpa, true_and, and_true, and_self])
  exact l_turnsFor hm hn h3 hq n 0 (by omega)
def fO (f : Nat → Int32) (x : Int32) (i d : Nat) : Int32 := fst9 (fun k => f (281 + 7 * k + 1) = x) i d
theorem l_firstOn {E : zE} {Q : Int32 → zH → Prop} {m n : Nat} {x : Int32} {h : zH} {F : Nat → Nat → Int32} {k' n' : Nat} (hm : MS h m) (hn : n ≤ 8) (hq : Q (fO (F 1) x 0 n) (MST h m F)) (j : Nat) : j ≤ n → zJ E mX9_firstOn (zQi Q) 12 [some (.inr m), some (.inl x), some (.inl (fO (F 1) x j (n - j))), some (.inl (nI j - nI 1))] [] (MST h m F) k' n' := by
  obtain ⟨mk, ⟨mr1, mr2, mr3, mr4, mr6, mr8⟩, ⟨mk1, mk2, mk3, mk4, mk5, mk6⟩, ⟨mn1, mn2, mn3, mn4, mn5, mn6⟩⟩ := id hm
  have har : AR (MST h m F) (m + 1) := AR_MS hm (by omega)
  induction j with
  | zero =>
    intro hj
    have e0 : ((0 : Int32) ≤ nI 0 - nI 1) = False := eq_false (by decide)
    have e1 : (nI 0 - nI 1 < 0) = True := eq_true (by decide)
    (refine jX9_firstOn 200 ?_; simp (disch := omega) only [↓wX9_firstOn_0, ↓wX9_firstOn_2, ↓wX9_firstOn_3, ↓wX9_firstOn_4, ↓wX9_firstOn_7, ↓wX9_firstOn_8, ↓wX9_firstOn_9, ↓wX9_firstOn_10, ↓wX9_firstOn_11, ↓wX9_firstOn_12, ↓wX9_firstOn_13, ↓wX9_firstOn_16, ↓wX9_firstOn_17, ↓wX9_firstOn_20, ↓wX9_firstOn_21, ↓wX9_firstOn_22, ↓wX9_firstOn_25, ↓wX9_firstOn_26, ↓wX9_firstOn_29, ↓wX9_firstOn_30, ↓wX9_firstOn_33, ↓wX9_firstOn_34, ↓wX9_firstOn_35, ↓wX9_firstOn_38, ↓wX9_firstOn_41, ↓wX9_firstOn_42, zQi_def, zQa_def, zQv_def, nI00, nI10, nI11, nI01, true_or, or_true, false_or, or_false, eq_self, true_implies, false_implies, not_true_eq_false, not_false_eq_true, zc9, zc1, zc2, zc3, zc1000, nI_m9, nI_add, pk_mul, ix_nI, vpT, zk_zpi, zn_zpi, zr_zpi, zk_zpa, zn_zpa, zr_zpa, zsz_zpi, zsz_zpa, zi_zpa, zpi_pa, zpa_zpa, true_and, and_true, and_self, zk_MST, zn_MST, zr_MST, zsz_MST, zi_MST, zi_MST0, zpa_MST, zpa_MST0, zup_eq, zup_ne, mk, mr1, mr2, mr3, mr4, mr6, mr8, mk1, mk2, mk3, mk4, mk5, mk6, mn1, mn2, mn3, mn4, mn5, mn6, e0, e1])
    exact hq
  | succ j ih =>
    intro hj
    have e0 : ((0 : Int32) ≤ nI j) = True := eq_true (nI_pos' (by omega))
    have key : fO (F 1) x j (n - j) = if F 1 (281 + 7 * j + 1) = x then nI j else fO (F 1) x (j + 1) (n - (j + 1)) := by
      rw [show n - j = (n - (j + 1)) + 1 by omega]; rfl
    have t := ih (by omega)
    rw [key] at t
    (refine jX9_firstOn 200 ?_; simp (disch := omega) only [↓wX9_firstOn_0, ↓wX9_firstOn_2, ↓wX9_firstOn_3, ↓wX9_firstOn_4, ↓wX9_firstOn_7, ↓wX9_firstOn_8, ↓wX9_firstOn_9, ↓wX9_firstOn_10, ↓wX9_firstOn_11, ↓wX9_firstOn_12, ↓wX9_firstOn_13, ↓wX9_firstOn_16, ↓wX9_firstOn_17, ↓wX9_firstOn_20, ↓wX9_firstOn_21, ↓wX9_firstOn_22, ↓wX9_firstOn_25, ↓wX9_firstOn_26, ↓wX9_firstOn_29, ↓wX9_firstOn_30, ↓wX9_firstOn_33, ↓wX9_firstOn_34, ↓wX9_firstOn_35, ↓wX9_firstOn_38, ↓wX9_firstOn_41, ↓wX9_firstOn_42, zQi_def, zQa_def, zQv_def, nI00, nI10, nI11, nI01, true_or, or_true, false_or, or_false, eq_self, true_implies, false_implies, not_true_eq_false, not_false_eq_true, zc9, zc1, zc2, zc3, zc1000, nI_m9, nI_add, pk_mul, ix_nI, vpT, zk_zpi, zn_zpi, zr_zpi, zk_zpa, zn_zpa, zr_zpa, zsz_zpi, zsz_zpa, zi_zpa, zpi_pa, zpa_zpa, true_and, and_true, and_self, zk_MST, zn_MST, zr_MST, zsz_MST, zi_MST, zi_MST0, zpa_MST, zpa_MST0, zup_eq, zup_ne, mk, mr1, mr2, mr3, mr4, mr6, mr8, mk1, mk2, mk3, mk4, mk5, mk6, mn1, mn2, mn3, mn4, mn5, mn6, pk_sub, Nat.add_sub_cancel, e0, nI_nneg])
    repeat' (first | (with_reducible assumption) | (with_reducible decide) | (simp (disch := omega) only [nI00, nI10, nI11, nI01, true_or, or_true, false_or, or_false, eq_self, true_implies, false_implies, not_true_eq_false, not_false_eq_true, zc9, zc1, zc2, zc3, zc1000, nI_m9, nI_add, pk_mul, ix_nI, vpT, zk_zpi, zn_zpi, zr_zpi, zk_zpa, zn_zpa, zr_zpa, zsz_zpi, zsz_zpa, zi_zpa, zpi_pa, zpa_zpa, true_and, and_true, and_self, zk_MST, zn_MST, zr_MST, zsz_MST, zi_MST, zi_MST0, zpa_MST, zpa_MST0, zup_eq, zup_ne, mk, mr1, mr2, mr3, mr4, mr6, mr8, mk1, mk2, mk3, mk4, mk5, mk6, mn1, mn2, mn3, mn4, mn5, mn6, zc1, nI_neg1]) | (with_reducible apply And.intro) | (with_reducible intro _) | (refine c_in ?_) | (refine c_less ?_) | (refine c_ofRock (by assumption) (by omega) (by omega) ?_) | (refine c_ofKeeper (by assumption) (by omega) (by omega) ?_) | (refine c_setKeeper (by assumption) (by omega) (by omega) ?_) | (refine c_ofTurn (by assumption) (by omega) (by omega) ?_) | (refine c_setTurn (by assumption) (by omega) (by omega) ?_) | (refine c_storeAt ?_))
    all_goals (first | (rw [if_pos (by assumption)] at t; exact t) | (rw [if_neg (by assumption)] at t; exact t))
theorem d_firstOn {E : zE} {Q : Int32 → zH → Prop} {m n : Nat} {x : Int32} {h : zH} {F : Nat → Nat → Int32} (hm : MS h m) (hn : n ≤ 8) (h2 : F 1 2 = nI n) (hq : Q (fO (F 1) x 0 n) (MST h m F)) : zMi E mX9_firstOn [.inr m, .inl x] (MST h m F) Q := by
  obtain ⟨mk, ⟨mr1, mr2, mr3, mr4, mr6, mr8⟩, ⟨mk1, mk2, mk3, mk4, mk5, mk6⟩, ⟨mn1, mn2, mn3, mn4, mn5, mn6⟩⟩ := id hm
  (refine eX9_firstOn 200 ?_; simp (disch := omega) only [↓wX9_firstOn_0, ↓wX9_firstOn_2, ↓wX9_firstOn_3, ↓wX9_firstOn_4, ↓wX9_firstOn_7, ↓wX9_firstOn_8, ↓wX9_firstOn_9, ↓wX9_firstOn_10, ↓wX9_firstOn_11, ↓wX9_firstOn_12, ↓wX9_firstOn_13, ↓wX9_firstOn_16, ↓wX9_firstOn_17, ↓wX9_firstOn_20, ↓wX9_firstOn_21, ↓wX9_firstOn_22, ↓wX9_firstOn_25, ↓wX9_firstOn_26, ↓wX9_firstOn_29, ↓wX9_firstOn_30, ↓wX9_firstOn_33, ↓wX9_firstOn_34, ↓wX9_firstOn_35, ↓wX9_firstOn_38, ↓wX9_firstOn_41, ↓wX9_firstOn_42, zQi_def, zQa_def, zQv_def, nI00, nI10, nI11, nI01, true_or, or_true, false_or, or_false, eq_self, true_implies, false_implies, not_true_eq_false, not_false_eq_true, zc9, zc1, zc2, zc3, zc1000, nI_m9, nI_add, pk_mul, ix_nI, vpT, zk_zpi, zn_zpi, zr_zpi, zk_zpa, zn_zpa, zr_zpa, zsz_zpi, zsz_zpa, zi_zpa, zpi_pa, zpa_zpa, true_and, and_true, and_self, zk_MST, zn_MST, zr_MST, zsz_MST, zi_MST, zi_MST0, zpa_MST, zpa_MST0, zup_eq, zup_ne, mk, mr1, mr2, mr3, mr4, mr6, mr8, mk1, mk2, mk3, mk4, mk5, mk6, mn1, mn2, mn3, mn4, mn5, mn6, h2])
  have t := l_firstOn (E := E) (k' := 0) (n' := 0) hm hn hq n (Nat.le_refl n)
  rw [Nat.sub_self] at t
  exact t
theorem p_count {E : zE} {Q : Int32 → zH → Prop} {m : Nat} {h : zH} {F : Nat → Nat → Int32} {nr nk n td s L : Nat} {x : Int32} (hm : MS h m) (hM : MI F s L) (hI : RI (F 1) nr nk n td) (hq : Q (qCnt (F 1) nk s L x) (MST h m F)) : zMi E mX9_count [.inr m, .inl x] (MST h m F) Q := by
  obtain ⟨mk, ⟨mr1, mr2, mr3, mr4, mr6, mr8⟩, ⟨mk1, mk2, mk3, mk4, mk5, mk6⟩, ⟨mn1, mn2, mn3, mn4, mn5, mn6⟩⟩ := id hm
  obtain ⟨i1, i2, i3, i0, hb, hT, hK⟩ := id hI
  obtain ⟨hz, i5, hs, i7, hL⟩ := id hM
  have hthr := thr_id hz
  have har : AR (MST h m F) (m + 1) := AR_MS hm (by omega)
  unfold qCnt at hq
  (refine eX9_count 200 ?_; simp (disch := omega) only [↓wX9_count_0, ↓wX9_count_1, ↓wX9_count_2, ↓wX9_count_5, ↓wX9_count_6, ↓wX9_count_64, ↓wX9_count_65, ↓wX9_count_68, ↓wX9_count_69, ↓wX9_count_70, ↓wX9_count_71, ↓wX9_count_72, ↓wX9_count_75, ↓wX9_count_77, ↓wX9_count_80, ↓wX9_count_81, ↓wX9_count_82, ↓wX9_count_85, ↓wX9_count_86, ↓wX9_count_87, ↓wX9_count_88, ↓wX9_count_89, ↓wX9_count_92, ↓wX9_count_93, ↓wX9_count_94, ↓wX9_count_95, ↓wX9_count_96, ↓wX9_count_99, ↓wX9_count_101, ↓wX9_count_102, ↓wX9_count_103, ↓wX9_count_104, ↓wX9_count_107, ↓wX9_count_108, ↓wX9_count_111, ↓wX9_count_112, ↓wX9_count_113, ↓wX9_count_116, ↓wX9_count_117, ↓wX9_count_120, ↓wX9_count_121, ↓wX9_count_122, ↓wX9_count_123, ↓wX9_count_124, ↓wX9_count_127, ↓wX9_count_128, ↓wX9_count_129, ↓wX9_count_132, ↓wX9_count_133, ↓wX9_count_134, zQi_def, zQa_def, zQv_def, nI00, nI10, nI11, nI01, true_or, or_true, false_or, or_false, eq_self, true_implies, false_implies, not_true_eq_false, not_false_eq_true, zc9, zc1, zc2, zc3, zc1000, nI_m9, nI_add, pk_mul, ix_nI, vpT, zk_zpi, zn_zpi, zr_zpi, zk_zpa, zn_zpa, zr_zpa, zsz_zpi, zsz_zpa, zi_zpa, zpi_pa, zpa_zpa, true_and, and_true, and_self, nI_eq0, and_false, false_and, zk_MST, zn_MST, zr_MST, zsz_MST, zi_MST, zi_MST0, zpa_MST, zpa_MST0, zup_eq, zup_ne, mk, mr1, mr2, mr3, mr4, mr6, mr8, mk1, mk2, mk3, mk4, mk5, mk6, mn1, mn2, mn3, mn4, mn5, mn6, i0, i1, i2, i3, i5, i7, hthr, zb_eq0, zb_in0, zb_in1, zb_01, ltle, Classical.not_not, m1lt, m2lt, m3lt, z0lt, nI_eq, nI_leI, m1le, m2le, m3le, z0le])
  refine ⟨fun ho => ?_, ?_, ?_, ?_, ?_, ?_, ?_, ?_, ?_, ?_, ?_, ?_⟩
  all_goals (try intro ho)
  all_goals (first | (obtain rfl := i32k (k := 0) (by omega) ho) | (obtain rfl := i32k (k := 1) (by omega) ho) | (obtain rfl := i32k (k := 2) (by omega) ho) | (obtain rfl := i32k (k := 3) (by omega) ho) | skip)
  all_goals (try simp (disch := omega) only [nIn] at hq)
  all_goals (repeat' (first | (with_reducible assumption) | (with_reducible decide) | (simp (disch := omega) only [nI00, nI10, nI11, nI01, true_or, or_true, false_or, or_false, eq_self, true_implies, false_implies, not_true_eq_false, not_false_eq_true, zc9, zc1, zc2, zc3, zc1000, nI_m9, nI_add, pk_mul, ix_nI, vpT, zk_zpi, zn_zpi, zr_zpi, zk_zpa, zn_zpa, zr_zpa, zsz_zpi, zsz_zpa, zi_zpa, zpi_pa, zpa_zpa, true_and, and_true, and_self, nI_eq0, and_false, false_and, zk_MST, zn_MST, zr_MST, zsz_MST, zi_MST, zi_MST0, zpa_MST, zpa_MST0, zup_eq, zup_ne, mk, mr1, mr2, mr3, mr4, mr6, mr8, mk1, mk2, mk3, mk4, mk5, mk6, mn1, mn2, mn3, mn4, mn5, mn6, i0, i1, i2, i3, i5, i7, hthr, zb_eq0, zb_in0, zb_in1, zb_01, ltle, Classical.not_not, m1lt, m2lt, m3lt, z0lt, nI_eq, nI_leI, m1le, m2le, m3le, z0le]) | (with_reducible apply And.intro) | (with_reducible intro _) | (refine c_in ?_) | (refine c_less ?_) | (refine c_ofRock (by assumption) (by omega) (by omega) ?_) | (refine c_ofKeeper (by assumption) (by omega) (by omega) ?_) | (refine c_setKeeper (by assumption) (by omega) (by omega) ?_) | (refine c_ofTurn (by assumption) (by omega) (by omega) ?_) | (refine c_setTurn (by assumption) (by omega) (by omega) ?_) | (refine c_storeAt ?_) | (refine d_isDay ?_) | (refine d_isRock hm (by omega) i1 ?_) | (refine d_isKeeper hm (by omega) i2 ?_) | (refine d_isTurn hm (by omega) i3 ?_) | (refine d_isStore hm (by omega) i1 ?_) | (refine c_keepersOn har hb.2.2.2 (by simp (disch := omega) only [zi_MST]; exact i2) ?_) | (refine c_need har hb.2.2.2 (by simp (disch := omega) only [zi_MST]; exact i2) (by omega) ?_) | (refine c_slotAt (i := 0) ?_) | (refine c_slotAt (i := 1) ?_) | (refine c_ofRock har (by omega) (by omega) ?_) | (refine c_ofKeeper har (by omega) (by omega) ?_) | (refine c_ofTurn har (by omega) (by omega) ?_)))
  all_goals (first | exact hq | ((repeat (first | rw [if_pos (by omega)] at hq | rw [if_neg (by omega)] at hq)); first | exact hq | (simp only [i0, i1, i2, i3] at hq; exact hq)) | omega)
