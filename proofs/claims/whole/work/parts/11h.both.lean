/-! Both new objects. -/
def rI (k : Nat) : Int32 := if 7 ≤ k ∧ k < 21 then nI 50 else if 21 ≤ k ∧ k < 221 then nI 3 else 0
def fo (a : Nat) (v : Int32) (n : Nat) (f : Nat → Int32) (k : Nat) : Int32 := if a ≤ k ∧ k < a + n then v else f k
theorem fo_0 (a : Nat) (v : Int32) (f : Nat → Int32) : fo a v 0 f = f := funext fun k => if_neg (by omega)
theorem fo_s (a : Nat) (v : Int32) (n : Nat) (f : Nat → Int32) : zup (fo a v n f) (a + n) v = fo a v (n + 1) f := by
  funext k
  unfold zup fo
  by_cases e : k = a + n
  · rw [if_pos e, if_pos (by omega)]
  · rw [if_neg e]
    by_cases q : a ≤ k ∧ k < a + n
    · rw [if_pos q, if_pos (by omega)]
    · rw [if_neg q, if_neg (by omega)]
theorem rI_z {k : Nat} (h : k < 7 ∨ 221 ≤ k) : rI k = 0 := by unfold rI; rw [if_neg (by omega), if_neg (by omega)]
theorem rI_fo : fo 21 (nI 3) 200 (fo 7 (nI 50) 14 (fun _ => 0)) = rI := by
  funext k
  unfold fo rI
  (repeat' split) <;> (first | rfl | (exfalso; omega))
theorem rI_7 {k : Nat} (h : k < 14) : rI (7 + k) = nI 50 := by unfold rI; rw [if_pos (by omega)]
theorem rI_21 {k : Nat} (h : k < 200) : rI (21 + k) = nI 3 := by unfold rI; rw [if_neg (by omega), if_pos (by omega)]
theorem cl1301 : (nI 1301).toNatClampNeg = 1301 := by decide
theorem cl433 : (nI 433).toNatClampNeg = 433 := by decide
theorem cl6505 : (nI 6505).toNatClampNeg = 6505 := by decide
theorem l_mi1 {E : zE} {Q : zH → Prop} {m : Nat} {h : zH} {g : Nat → Int32} (hm : MS h m) {k' n' : Nat} (d : Nat) : ∀ (F : Nat → Nat → Int32) (i : Nat), i + d = 14 → F 1 = fo 7 (nI 50) i g →
    zJ E mX9_init (zQv Q) 88 [some (.inr m), some (.inl (nI 0))] [] (MST h m (zup F 1 (fo 7 (nI 50) 14 g))) k' n' → zJ E mX9_init (zQv Q) 63 [some (.inr m), some (.inl (nI i))] [] (MST h m F) k' n' := by
  obtain ⟨mk, ⟨mr1, mr2, mr3, mr4, mr6, mr8⟩, ⟨mk1, mk2, mk3, mk4, mk5, mk6⟩, ⟨mn1, mn2, mn3, mn4, mn5, mn6⟩⟩ := id hm
  induction d with
  | zero =>
    intro F i hi h1 hq
    obtain rfl : i = 14 := by omega
    rw [← h1, zup_self] at hq
    (refine jX9_init 200 ?_; simp (disch := omega) only [↓wX9_init_0, ↓wX9_init_1, ↓wX9_init_4, ↓wX9_init_5, ↓wX9_init_8, ↓wX9_init_10, ↓wX9_init_13, ↓wX9_init_14, ↓wX9_init_17, ↓wX9_init_19, ↓wX9_init_22, ↓wX9_init_23, ↓wX9_init_26, ↓wX9_init_28, ↓wX9_init_31, ↓wX9_init_32, ↓wX9_init_35, ↓wX9_init_37, ↓wX9_init_40, ↓wX9_init_41, ↓wX9_init_44, ↓wX9_init_46, ↓wX9_init_49, ↓wX9_init_50, ↓wX9_init_51, ↓wX9_init_53, ↓wX9_init_56, ↓wX9_init_57, ↓wX9_init_58, ↓wX9_init_61, ↓wX9_init_62, ↓wX9_init_63, ↓wX9_init_64, ↓wX9_init_66, ↓wX9_init_69, ↓wX9_init_70, ↓wX9_init_73, ↓wX9_init_75, ↓wX9_init_76, ↓wX9_init_77, ↓wX9_init_79, ↓wX9_init_80, ↓wX9_init_83, ↓wX9_init_86, ↓wX9_init_87, ↓wX9_init_88, ↓wX9_init_89, ↓wX9_init_92, ↓wX9_init_95, ↓wX9_init_96, ↓wX9_init_99, ↓wX9_init_101, ↓wX9_init_102, ↓wX9_init_103, ↓wX9_init_104, ↓wX9_init_105, ↓wX9_init_108, ↓wX9_init_111, zQi_def, zQa_def, zQv_def, nI00, nI10, nI11, nI01, true_or, or_true, false_or, or_false, eq_self, true_implies, false_implies, not_true_eq_false, not_false_eq_true, zc9, zc1, zc2, zc3, zc1000, nI_m9, nI_add, pk_mul, ix_nI, vpT, zk_zpi, zn_zpi, zr_zpi, zk_zpa, zn_zpa, zr_zpa, zsz_zpi, zsz_zpa, zi_zpa, zpi_pa, zpa_zpa, true_and, and_true, and_self, zk_MST, zn_MST, zr_MST, zsz_MST, zi_MST, zi_MST0, zpa_MST, zpa_MST0, mk, mr1, mr2, mr3, mr4, mr6, mr8, mk1, mk2, mk3, mk4, mk5, mk6, mn1, mn2, mn3, mn4, mn5, mn6, nI_leI, Nat.le_refl])
    exact hq
  | succ d ih =>
    intro F i hi h1 hq
    have hle : ¬ 14 ≤ i := by omega
    (refine jX9_init 200 ?_; simp (disch := omega) only [↓wX9_init_0, ↓wX9_init_1, ↓wX9_init_4, ↓wX9_init_5, ↓wX9_init_8, ↓wX9_init_10, ↓wX9_init_13, ↓wX9_init_14, ↓wX9_init_17, ↓wX9_init_19, ↓wX9_init_22, ↓wX9_init_23, ↓wX9_init_26, ↓wX9_init_28, ↓wX9_init_31, ↓wX9_init_32, ↓wX9_init_35, ↓wX9_init_37, ↓wX9_init_40, ↓wX9_init_41, ↓wX9_init_44, ↓wX9_init_46, ↓wX9_init_49, ↓wX9_init_50, ↓wX9_init_51, ↓wX9_init_53, ↓wX9_init_56, ↓wX9_init_57, ↓wX9_init_58, ↓wX9_init_61, ↓wX9_init_62, ↓wX9_init_63, ↓wX9_init_64, ↓wX9_init_66, ↓wX9_init_69, ↓wX9_init_70, ↓wX9_init_73, ↓wX9_init_75, ↓wX9_init_76, ↓wX9_init_77, ↓wX9_init_79, ↓wX9_init_80, ↓wX9_init_83, ↓wX9_init_86, ↓wX9_init_87, ↓wX9_init_88, ↓wX9_init_89, ↓wX9_init_92, ↓wX9_init_95, ↓wX9_init_96, ↓wX9_init_99, ↓wX9_init_101, ↓wX9_init_102, ↓wX9_init_103, ↓wX9_init_104, ↓wX9_init_105, ↓wX9_init_108, ↓wX9_init_111, zQi_def, zQa_def, zQv_def, nI00, nI10, nI11, nI01, true_or, or_true, false_or, or_false, eq_self, true_implies, false_implies, not_true_eq_false, not_false_eq_true, zc9, zc1, zc2, zc3, zc1000, nI_m9, nI_add, pk_mul, ix_nI, vpT, zk_zpi, zn_zpi, zr_zpi, zk_zpa, zn_zpa, zr_zpa, zsz_zpi, zsz_zpa, zi_zpa, zpi_pa, zpa_zpa, true_and, and_true, and_self, zk_MST, zn_MST, zr_MST, zsz_MST, zi_MST, zi_MST0, zpa_MST, zpa_MST0, mk, mr1, mr2, mr3, mr4, mr6, mr8, mk1, mk2, mk3, mk4, mk5, mk6, mn1, mn2, mn3, mn4, mn5, mn6, nI_leI, hle])
    refine ih _ (i + 1) (by omega) ?_ ?_
    · rw [zup_eq rfl, h1, fo_s]
    · rw [zup_zup]; exact hq
theorem l_mi2 {E : zE} {Q : zH → Prop} {m : Nat} {h : zH} {g : Nat → Int32} (hm : MS h m) {k' n' : Nat} (d : Nat) : ∀ (F : Nat → Nat → Int32) (i : Nat), i + d = 200 → F 1 = fo 21 (nI 3) i g →
    Q (MST h m (zup F 1 (fo 21 (nI 3) 200 g))) → zJ E mX9_init (zQv Q) 88 [some (.inr m), some (.inl (nI i))] [] (MST h m F) k' n' := by
  obtain ⟨mk, ⟨mr1, mr2, mr3, mr4, mr6, mr8⟩, ⟨mk1, mk2, mk3, mk4, mk5, mk6⟩, ⟨mn1, mn2, mn3, mn4, mn5, mn6⟩⟩ := id hm
  induction d with
  | zero =>
    intro F i hi h1 hq
    obtain rfl : i = 200 := by omega
    rw [← h1, zup_self] at hq
    have hle : ¬ 200 ≤ 199 := by omega
    (refine jX9_init 200 ?_; simp (disch := omega) only [↓wX9_init_0, ↓wX9_init_1, ↓wX9_init_4, ↓wX9_init_5, ↓wX9_init_8, ↓wX9_init_10, ↓wX9_init_13, ↓wX9_init_14, ↓wX9_init_17, ↓wX9_init_19, ↓wX9_init_22, ↓wX9_init_23, ↓wX9_init_26, ↓wX9_init_28, ↓wX9_init_31, ↓wX9_init_32, ↓wX9_init_35, ↓wX9_init_37, ↓wX9_init_40, ↓wX9_init_41, ↓wX9_init_44, ↓wX9_init_46, ↓wX9_init_49, ↓wX9_init_50, ↓wX9_init_51, ↓wX9_init_53, ↓wX9_init_56, ↓wX9_init_57, ↓wX9_init_58, ↓wX9_init_61, ↓wX9_init_62, ↓wX9_init_63, ↓wX9_init_64, ↓wX9_init_66, ↓wX9_init_69, ↓wX9_init_70, ↓wX9_init_73, ↓wX9_init_75, ↓wX9_init_76, ↓wX9_init_77, ↓wX9_init_79, ↓wX9_init_80, ↓wX9_init_83, ↓wX9_init_86, ↓wX9_init_87, ↓wX9_init_88, ↓wX9_init_89, ↓wX9_init_92, ↓wX9_init_95, ↓wX9_init_96, ↓wX9_init_99, ↓wX9_init_101, ↓wX9_init_102, ↓wX9_init_103, ↓wX9_init_104, ↓wX9_init_105, ↓wX9_init_108, ↓wX9_init_111, zQi_def, zQa_def, zQv_def, nI00, nI10, nI11, nI01, true_or, or_true, false_or, or_false, eq_self, true_implies, false_implies, not_true_eq_false, not_false_eq_true, zc9, zc1, zc2, zc3, zc1000, nI_m9, nI_add, pk_mul, ix_nI, vpT, zk_zpi, zn_zpi, zr_zpi, zk_zpa, zn_zpa, zr_zpa, zsz_zpi, zsz_zpa, zi_zpa, zpi_pa, zpa_zpa, true_and, and_true, and_self, zk_MST, zn_MST, zr_MST, zsz_MST, zi_MST, zi_MST0, zpa_MST, zpa_MST0, mk, mr1, mr2, mr3, mr4, mr6, mr8, mk1, mk2, mk3, mk4, mk5, mk6, mn1, mn2, mn3, mn4, mn5, mn6, nI_leI, ltle, hle])
    exact hq
  | succ d ih =>
    intro F i hi h1 hq
    have hle : i ≤ 199 := by omega
    (refine jX9_init 200 ?_; simp (disch := omega) only [↓wX9_init_0, ↓wX9_init_1, ↓wX9_init_4, ↓wX9_init_5, ↓wX9_init_8, ↓wX9_init_10, ↓wX9_init_13, ↓wX9_init_14, ↓wX9_init_17, ↓wX9_init_19, ↓wX9_init_22, ↓wX9_init_23, ↓wX9_init_26, ↓wX9_init_28, ↓wX9_init_31, ↓wX9_init_32, ↓wX9_init_35, ↓wX9_init_37, ↓wX9_init_40, ↓wX9_init_41, ↓wX9_init_44, ↓wX9_init_46, ↓wX9_init_49, ↓wX9_init_50, ↓wX9_init_51, ↓wX9_init_53, ↓wX9_init_56, ↓wX9_init_57, ↓wX9_init_58, ↓wX9_init_61, ↓wX9_init_62, ↓wX9_init_63, ↓wX9_init_64, ↓wX9_init_66, ↓wX9_init_69, ↓wX9_init_70, ↓wX9_init_73, ↓wX9_init_75, ↓wX9_init_76, ↓wX9_init_77, ↓wX9_init_79, ↓wX9_init_80, ↓wX9_init_83, ↓wX9_init_86, ↓wX9_init_87, ↓wX9_init_88, ↓wX9_init_89, ↓wX9_init_92, ↓wX9_init_95, ↓wX9_init_96, ↓wX9_init_99, ↓wX9_init_101, ↓wX9_init_102, ↓wX9_init_103, ↓wX9_init_104, ↓wX9_init_105, ↓wX9_init_108, ↓wX9_init_111, zQi_def, zQa_def, zQv_def, nI00, nI10, nI11, nI01, true_or, or_true, false_or, or_false, eq_self, true_implies, false_implies, not_true_eq_false, not_false_eq_true, zc9, zc1, zc2, zc3, zc1000, nI_m9, nI_add, pk_mul, ix_nI, vpT, zk_zpi, zn_zpi, zr_zpi, zk_zpa, zn_zpa, zr_zpa, zsz_zpi, zsz_zpa, zi_zpa, zpi_pa, zpa_zpa, true_and, and_true, and_self, zk_MST, zn_MST, zr_MST, zsz_MST, zi_MST, zi_MST0, zpa_MST, zpa_MST0, mk, mr1, mr2, mr3, mr4, mr6, mr8, mk1, mk2, mk3, mk4, mk5, mk6, mn1, mn2, mn3, mn4, mn5, mn6, nI_leI, ltle, hle])
    refine ih _ (i + 1) (by omega) ?_ ?_
    · rw [zup_eq rfl, h1, fo_s]
    · rw [zup_zup]; exact hq
theorem v_init9 {E : zE} {Q : zH → Prop} {m : Nat} {h : zH} (hz : zsz h = m + 1) (hm0 : m ≠ 0) (hk : zk h m = 10) (hi : zi h m = fun _ => 0) (hq : ∀ h', zsz h' = m + 7 → SB h h' m → MS h' m → zi h' (m + 1) = rI → (∀ j, j < 7 → j ≠ 1 → zi h' (m + j) = fun _ => 0) → Q h') : zMv E mX9_init [.inr m] h Q := by
  (refine eX9_init 200 ?_; simp (disch := omega) only [↓wX9_init_0, ↓wX9_init_1, ↓wX9_init_4, ↓wX9_init_5, ↓wX9_init_8, ↓wX9_init_10, ↓wX9_init_13, ↓wX9_init_14, ↓wX9_init_17, ↓wX9_init_19, ↓wX9_init_22, ↓wX9_init_23, ↓wX9_init_26, ↓wX9_init_28, ↓wX9_init_31, ↓wX9_init_32, ↓wX9_init_35, ↓wX9_init_37, ↓wX9_init_40, ↓wX9_init_41, ↓wX9_init_44, ↓wX9_init_46, ↓wX9_init_49, ↓wX9_init_50, ↓wX9_init_51, ↓wX9_init_53, ↓wX9_init_56, ↓wX9_init_57, ↓wX9_init_58, ↓wX9_init_61, ↓wX9_init_62, ↓wX9_init_63, ↓wX9_init_64, ↓wX9_init_66, ↓wX9_init_69, ↓wX9_init_70, ↓wX9_init_73, ↓wX9_init_75, ↓wX9_init_76, ↓wX9_init_77, ↓wX9_init_79, ↓wX9_init_80, ↓wX9_init_83, ↓wX9_init_86, ↓wX9_init_87, ↓wX9_init_88, ↓wX9_init_89, ↓wX9_init_92, ↓wX9_init_95, ↓wX9_init_96, ↓wX9_init_99, ↓wX9_init_101, ↓wX9_init_102, ↓wX9_init_103, ↓wX9_init_104, ↓wX9_init_105, ↓wX9_init_108, ↓wX9_init_111, zQi_def, zQa_def, zQv_def, nI00, nI10, nI11, nI01, true_or, or_true, false_or, or_false, eq_self, true_implies, false_implies, not_true_eq_false, not_false_eq_true, zc9, zc1, zc2, zc3, zc1000, nI_m9, nI_add, pk_mul, ix_nI, vpT, zk_zpi, zn_zpi, zr_zpi, zk_zpa, zn_zpa, zr_zpa, zsz_zpi, zsz_zpa, zi_zpa, zpi_pa, zpa_zpa, true_and, and_true, and_self, hk])
  simp (disch := (first | omega | (simp only [zsz_new, zsz_zpr, zsz_zpa, zsz_zpi]; omega))) only [nI00, nI10, nI11, nI01, true_or, or_true, false_or, or_false, eq_self, true_implies, false_implies, not_true_eq_false, not_false_eq_true, zc9, zc1, zc2, zc3, zc1000, nI_m9, nI_add, pk_mul, ix_nI, vpT, zk_zpi, zn_zpi, zr_zpi, zk_zpa, zn_zpa, zr_zpa, zsz_zpi, zsz_zpa, zi_zpa, zpi_pa, zpa_zpa, true_and, and_true, and_self, zk_new, zk_newE, zn_new, zn_newE, zi_new, zi_newE, zr_new, zr_newE, zsz_new, zk_zpr, zn_zpr, zi_zpr, zsz_zpr, zr_zprE, zr_zprN, zr_zprF, zr_zpa, zk_zpa, zn_zpa, zi_zpa, zi_zpaN, zsz_zpa, n3c, n3n, cl1301, cl433, cl6505, cl140, cl4, nI_nneg, not_false_eq_true, hk, hz]
  refine ⟨hm0, ⟨by omega, by omega, by omega⟩, ⟨by omega, by omega, by omega⟩, ⟨by omega, by omega, by omega⟩, ⟨by omega, by omega, by omega⟩, ⟨by omega, by omega, by omega⟩, ⟨by omega, by omega, by omega⟩, ?_⟩
  generalize hh5 : zpa _ m _ = h5
  have k0 : zk h5 m = 10 := by rw [← hh5]; simp (disch := (first | omega | (simp only [zsz_new, zsz_zpr, zsz_zpa, zsz_zpi]; omega))) only [zk_new, zk_newE, zn_new, zn_newE, zi_new, zi_newE, zr_new, zr_newE, zsz_new, zk_zpr, zn_zpr, zi_zpr, zsz_zpr, zr_zprE, zr_zprN, zr_zprF, zr_zpa, zk_zpa, zn_zpa, zi_zpa, zi_zpaN, zsz_zpa]; exact hk
  have r1 : zr h5 m 1 = m + 1 := by rw [← hh5]; simp (disch := (first | omega | (simp only [zsz_new, zsz_zpr, zsz_zpa, zsz_zpi]; omega))) only [zk_new, zk_newE, zn_new, zn_newE, zi_new, zi_newE, zr_new, zr_newE, zsz_new, zk_zpr, zn_zpr, zi_zpr, zsz_zpr, zr_zprE, zr_zprN, zr_zprF, zr_zpa, zk_zpa, zn_zpa, zi_zpa, zi_zpaN, zsz_zpa]
  have r2 : zr h5 m 2 = m + 2 := by rw [← hh5]; simp (disch := (first | omega | (simp only [zsz_new, zsz_zpr, zsz_zpa, zsz_zpi]; omega))) only [zk_new, zk_newE, zn_new, zn_newE, zi_new, zi_newE, zr_new, zr_newE, zsz_new, zk_zpr, zn_zpr, zi_zpr, zsz_zpr, zr_zprE, zr_zprN, zr_zprF, zr_zpa, zk_zpa, zn_zpa, zi_zpa, zi_zpaN, zsz_zpa]
  have r3 : zr h5 m 3 = m + 3 := by rw [← hh5]; simp (disch := (first | omega | (simp only [zsz_new, zsz_zpr, zsz_zpa, zsz_zpi]; omega))) only [zk_new, zk_newE, zn_new, zn_newE, zi_new, zi_newE, zr_new, zr_newE, zsz_new, zk_zpr, zn_zpr, zi_zpr, zsz_zpr, zr_zprE, zr_zprN, zr_zprF, zr_zpa, zk_zpa, zn_zpa, zi_zpa, zi_zpaN, zsz_zpa]
  have r4 : zr h5 m 4 = m + 4 := by rw [← hh5]; simp (disch := (first | omega | (simp only [zsz_new, zsz_zpr, zsz_zpa, zsz_zpi]; omega))) only [zk_new, zk_newE, zn_new, zn_newE, zi_new, zi_newE, zr_new, zr_newE, zsz_new, zk_zpr, zn_zpr, zi_zpr, zsz_zpr, zr_zprE, zr_zprN, zr_zprF, zr_zpa, zk_zpa, zn_zpa, zi_zpa, zi_zpaN, zsz_zpa]
  have r6 : zr h5 m 6 = m + 5 := by rw [← hh5]; simp (disch := (first | omega | (simp only [zsz_new, zsz_zpr, zsz_zpa, zsz_zpi]; omega))) only [zk_new, zk_newE, zn_new, zn_newE, zi_new, zi_newE, zr_new, zr_newE, zsz_new, zk_zpr, zn_zpr, zi_zpr, zsz_zpr, zr_zprE, zr_zprN, zr_zprF, zr_zpa, zk_zpa, zn_zpa, zi_zpa, zi_zpaN, zsz_zpa]
  have r8 : zr h5 m 8 = m + 6 := by rw [← hh5]; simp (disch := (first | omega | (simp only [zsz_new, zsz_zpr, zsz_zpa, zsz_zpi]; omega))) only [zk_new, zk_newE, zn_new, zn_newE, zi_new, zi_newE, zr_new, zr_newE, zsz_new, zk_zpr, zn_zpr, zi_zpr, zsz_zpr, zr_zprE, zr_zprN, zr_zprF, zr_zpa, zk_zpa, zn_zpa, zi_zpa, zi_zpaN, zsz_zpa]
  have k1 : zk h5 (m + 1) = 20 := by rw [← hh5]; simp (disch := (first | omega | (simp only [zsz_new, zsz_zpr, zsz_zpa, zsz_zpi]; omega))) only [zk_new, zk_newE, zn_new, zn_newE, zi_new, zi_newE, zr_new, zr_newE, zsz_new, zk_zpr, zn_zpr, zi_zpr, zsz_zpr, zr_zprE, zr_zprN, zr_zprF, zr_zpa, zk_zpa, zn_zpa, zi_zpa, zi_zpaN, zsz_zpa]
  have k2 : zk h5 (m + 2) = 20 := by rw [← hh5]; simp (disch := (first | omega | (simp only [zsz_new, zsz_zpr, zsz_zpa, zsz_zpi]; omega))) only [zk_new, zk_newE, zn_new, zn_newE, zi_new, zi_newE, zr_new, zr_newE, zsz_new, zk_zpr, zn_zpr, zi_zpr, zsz_zpr, zr_zprE, zr_zprN, zr_zprF, zr_zpa, zk_zpa, zn_zpa, zi_zpa, zi_zpaN, zsz_zpa]
  have k3 : zk h5 (m + 3) = 20 := by rw [← hh5]; simp (disch := (first | omega | (simp only [zsz_new, zsz_zpr, zsz_zpa, zsz_zpi]; omega))) only [zk_new, zk_newE, zn_new, zn_newE, zi_new, zi_newE, zr_new, zr_newE, zsz_new, zk_zpr, zn_zpr, zi_zpr, zsz_zpr, zr_zprE, zr_zprN, zr_zprF, zr_zpa, zk_zpa, zn_zpa, zi_zpa, zi_zpaN, zsz_zpa]
  have k4 : zk h5 (m + 4) = 20 := by rw [← hh5]; simp (disch := (first | omega | (simp only [zsz_new, zsz_zpr, zsz_zpa, zsz_zpi]; omega))) only [zk_new, zk_newE, zn_new, zn_newE, zi_new, zi_newE, zr_new, zr_newE, zsz_new, zk_zpr, zn_zpr, zi_zpr, zsz_zpr, zr_zprE, zr_zprN, zr_zprF, zr_zpa, zk_zpa, zn_zpa, zi_zpa, zi_zpaN, zsz_zpa]
  have k5 : zk h5 (m + 5) = 20 := by rw [← hh5]; simp (disch := (first | omega | (simp only [zsz_new, zsz_zpr, zsz_zpa, zsz_zpi]; omega))) only [zk_new, zk_newE, zn_new, zn_newE, zi_new, zi_newE, zr_new, zr_newE, zsz_new, zk_zpr, zn_zpr, zi_zpr, zsz_zpr, zr_zprE, zr_zprN, zr_zprF, zr_zpa, zk_zpa, zn_zpa, zi_zpa, zi_zpaN, zsz_zpa]
  have k6 : zk h5 (m + 6) = 20 := by rw [← hh5]; simp (disch := (first | omega | (simp only [zsz_new, zsz_zpr, zsz_zpa, zsz_zpi]; omega))) only [zk_new, zk_newE, zn_new, zn_newE, zi_new, zi_newE, zr_new, zr_newE, zsz_new, zk_zpr, zn_zpr, zi_zpr, zsz_zpr, zr_zprE, zr_zprN, zr_zprF, zr_zpa, zk_zpa, zn_zpa, zi_zpa, zi_zpaN, zsz_zpa]
  have n1 : zn h5 (m + 1) = 1301 := by rw [← hh5]; simp (disch := (first | omega | (simp only [zsz_new, zsz_zpr, zsz_zpa, zsz_zpi]; omega))) only [zk_new, zk_newE, zn_new, zn_newE, zi_new, zi_newE, zr_new, zr_newE, zsz_new, zk_zpr, zn_zpr, zi_zpr, zsz_zpr, zr_zprE, zr_zprN, zr_zprF, zr_zpa, zk_zpa, zn_zpa, zi_zpa, zi_zpaN, zsz_zpa]
  have n2 : zn h5 (m + 2) = 1301 := by rw [← hh5]; simp (disch := (first | omega | (simp only [zsz_new, zsz_zpr, zsz_zpa, zsz_zpi]; omega))) only [zk_new, zk_newE, zn_new, zn_newE, zi_new, zi_newE, zr_new, zr_newE, zsz_new, zk_zpr, zn_zpr, zi_zpr, zsz_zpr, zr_zprE, zr_zprN, zr_zprF, zr_zpa, zk_zpa, zn_zpa, zi_zpa, zi_zpaN, zsz_zpa]
  have n3 : zn h5 (m + 3) = 433 := by rw [← hh5]; simp (disch := (first | omega | (simp only [zsz_new, zsz_zpr, zsz_zpa, zsz_zpi]; omega))) only [zk_new, zk_newE, zn_new, zn_newE, zi_new, zi_newE, zr_new, zr_newE, zsz_new, zk_zpr, zn_zpr, zi_zpr, zsz_zpr, zr_zprE, zr_zprN, zr_zprF, zr_zpa, zk_zpa, zn_zpa, zi_zpa, zi_zpaN, zsz_zpa]
  have n4 : zn h5 (m + 4) = 6505 := by rw [← hh5]; simp (disch := (first | omega | (simp only [zsz_new, zsz_zpr, zsz_zpa, zsz_zpi]; omega))) only [zk_new, zk_newE, zn_new, zn_newE, zi_new, zi_newE, zr_new, zr_newE, zsz_new, zk_zpr, zn_zpr, zi_zpr, zsz_zpr, zr_zprE, zr_zprN, zr_zprF, zr_zpa, zk_zpa, zn_zpa, zi_zpa, zi_zpaN, zsz_zpa]
  have n5 : zn h5 (m + 5) = 140 := by rw [← hh5]; simp (disch := (first | omega | (simp only [zsz_new, zsz_zpr, zsz_zpa, zsz_zpi]; omega))) only [zk_new, zk_newE, zn_new, zn_newE, zi_new, zi_newE, zr_new, zr_newE, zsz_new, zk_zpr, zn_zpr, zi_zpr, zsz_zpr, zr_zprE, zr_zprN, zr_zprF, zr_zpa, zk_zpa, zn_zpa, zi_zpa, zi_zpaN, zsz_zpa]
  have n6 : zn h5 (m + 6) = 4 := by rw [← hh5]; simp (disch := (first | omega | (simp only [zsz_new, zsz_zpr, zsz_zpa, zsz_zpi]; omega))) only [zk_new, zk_newE, zn_new, zn_newE, zi_new, zi_newE, zr_new, zr_newE, zsz_new, zk_zpr, zn_zpr, zi_zpr, zsz_zpr, zr_zprE, zr_zprN, zr_zprF, zr_zpa, zk_zpa, zn_zpa, zi_zpa, zi_zpaN, zsz_zpa]
  have i0 : zi h5 m = fun _ => 0 := by
    rw [← hh5]
    simp (disch := (first | omega | (simp only [zsz_new, zsz_zpr, zsz_zpa, zsz_zpi]; omega))) only [zk_new, zk_newE, zn_new, zn_newE, zi_new, zi_newE, zr_new, zr_newE, zsz_new, zk_zpr, zn_zpr, zi_zpr, zsz_zpr, zr_zprE, zr_zprN, zr_zprF, zr_zpa, zk_zpa, zn_zpa, zi_zpa, zi_zpaN, zsz_zpa, hi]
    funext k
    unfold zup
    split <;> first | rfl | decide
  have i1 : zi h5 (m + 1) = fun _ => 0 := by rw [← hh5]; simp (disch := (first | omega | (simp only [zsz_new, zsz_zpr, zsz_zpa, zsz_zpi]; omega))) only [zk_new, zk_newE, zn_new, zn_newE, zi_new, zi_newE, zr_new, zr_newE, zsz_new, zk_zpr, zn_zpr, zi_zpr, zsz_zpr, zr_zprE, zr_zprN, zr_zprF, zr_zpa, zk_zpa, zn_zpa, zi_zpa, zi_zpaN, zsz_zpa]
  have i2 : zi h5 (m + 2) = fun _ => 0 := by rw [← hh5]; simp (disch := (first | omega | (simp only [zsz_new, zsz_zpr, zsz_zpa, zsz_zpi]; omega))) only [zk_new, zk_newE, zn_new, zn_newE, zi_new, zi_newE, zr_new, zr_newE, zsz_new, zk_zpr, zn_zpr, zi_zpr, zsz_zpr, zr_zprE, zr_zprN, zr_zprF, zr_zpa, zk_zpa, zn_zpa, zi_zpa, zi_zpaN, zsz_zpa]
  have i3 : zi h5 (m + 3) = fun _ => 0 := by rw [← hh5]; simp (disch := (first | omega | (simp only [zsz_new, zsz_zpr, zsz_zpa, zsz_zpi]; omega))) only [zk_new, zk_newE, zn_new, zn_newE, zi_new, zi_newE, zr_new, zr_newE, zsz_new, zk_zpr, zn_zpr, zi_zpr, zsz_zpr, zr_zprE, zr_zprN, zr_zprF, zr_zpa, zk_zpa, zn_zpa, zi_zpa, zi_zpaN, zsz_zpa]
  have i4 : zi h5 (m + 4) = fun _ => 0 := by rw [← hh5]; simp (disch := (first | omega | (simp only [zsz_new, zsz_zpr, zsz_zpa, zsz_zpi]; omega))) only [zk_new, zk_newE, zn_new, zn_newE, zi_new, zi_newE, zr_new, zr_newE, zsz_new, zk_zpr, zn_zpr, zi_zpr, zsz_zpr, zr_zprE, zr_zprN, zr_zprF, zr_zpa, zk_zpa, zn_zpa, zi_zpa, zi_zpaN, zsz_zpa]
  have i5 : zi h5 (m + 5) = fun _ => 0 := by rw [← hh5]; simp (disch := (first | omega | (simp only [zsz_new, zsz_zpr, zsz_zpa, zsz_zpi]; omega))) only [zk_new, zk_newE, zn_new, zn_newE, zi_new, zi_newE, zr_new, zr_newE, zsz_new, zk_zpr, zn_zpr, zi_zpr, zsz_zpr, zr_zprE, zr_zprN, zr_zprF, zr_zpa, zk_zpa, zn_zpa, zi_zpa, zi_zpaN, zsz_zpa]
  have i6 : zi h5 (m + 6) = fun _ => 0 := by rw [← hh5]; simp (disch := (first | omega | (simp only [zsz_new, zsz_zpr, zsz_zpa, zsz_zpi]; omega))) only [zk_new, zk_newE, zn_new, zn_newE, zi_new, zi_newE, zr_new, zr_newE, zsz_new, zk_zpr, zn_zpr, zi_zpr, zsz_zpr, zr_zprE, zr_zprN, zr_zprF, zr_zpa, zk_zpa, zn_zpa, zi_zpa, zi_zpaN, zsz_zpa]
  have hz5 : zsz h5 = m + 7 := by rw [← hh5]; simp (disch := (first | omega | (simp only [zsz_new, zsz_zpr, zsz_zpa, zsz_zpi]; omega))) only [zk_new, zk_newE, zn_new, zn_newE, zi_new, zi_newE, zr_new, zr_newE, zsz_new, zk_zpr, zn_zpr, zi_zpr, zsz_zpr, zr_zprE, zr_zprN, zr_zprF, zr_zpa, zk_zpa, zn_zpa, zi_zpa, zi_zpaN, zsz_zpa]; omega
  have hS : SB h h5 m := fun b hb => by rw [← hh5]; simp (disch := (first | omega | (simp only [zsz_new, zsz_zpr, zsz_zpa, zsz_zpi]; omega))) only [zk_new, zk_newE, zn_new, zn_newE, zi_new, zi_newE, zr_new, zr_newE, zsz_new, zk_zpr, zn_zpr, zi_zpr, zsz_zpr, zr_zprE, zr_zprN, zr_zprF, zr_zpa, zk_zpa, zn_zpa, zi_zpa, zi_zpaN, zsz_zpa, and_self]
  clear hh5
  have hm : MS h5 m := ⟨k0, ⟨r1, r2, r3, r4, r6, r8⟩, ⟨k1, k2, k3, k4, k5, k6⟩, ⟨n1, n2, n3, n4, n5, n6⟩⟩
  rw [← MST_self h5 m]
  refine l_mi1 (g := fun _ => 0) hm 14 _ 0 (by omega) (by rw [fo_0]; exact i1) ?_
  refine l_mi2 (g := fo 7 (nI 50) 14 (fun _ => 0)) hm 200 _ 0 (by omega) (by rw [fo_0, zup_eq rfl]) ?_
  rw [zup_zup, rI_fo]
  refine hq _ ?_ ?_ hm ?_ ?_
  · rw [zsz_MST]; exact hz5
  · intro b hb
    obtain ⟨b1, b2, b3, b4⟩ := hS b hb
    exact ⟨b1, b2, (zi_MSTN _ _ (by omega)).trans b3, b4⟩
  · rw [zi_MST _ _ (by omega), zup_eq rfl]
  · intro j hj hj1
    rw [zi_MST _ _ hj, zup_ne hj1]
    rcases (show j = 0 ∨ j = 2 ∨ j = 3 ∨ j = 4 ∨ j = 5 ∨ j = 6 by omega) with rfl | rfl | rfl | rfl | rfl | rfl
    · exact i0
    · exact i2
    · exact i3
    · exact i4
    · exact i5
    · exact i6
theorem WX_new {h : zH} {w : Nat} (hN : NW h w) : WX h w rI := by
  obtain ⟨n1, n2, n3, n4, n5, n6, n7⟩ := hN
  have zz : (0 : Int32) = nI 0 := by decide
  have g0 : ∀ f, f < 7 → (fun j => zi h (w + j)) 0 f = rI f := fun f hf => (n3 f hf).trans (rI_z (by omega)).symm
  refine ⟨0, 0, 0, 0, n1, fun k => k, n2, ⟨rI_z (by omega), rI_z (by omega), rI_z (by omega), rI_z (by omega), ⟨by omega, by omega, by omega, by omega⟩, fun u hu => by omega, fun k hk => by omega⟩, ⟨?_, ?_, fun i hi => by omega, fun i hi => by omega, fun i hi => by omega, fun i hi => by omega⟩, ⟨?_, ?_, ?_, ?_, ?_, ?_, ?_⟩, ⟨?_, ?_⟩, ⟨fun i hi => by omega, fun i hi => by omega, fun i hi => by omega, ?_, ?_⟩, ⟨fun i hi => by omega, ?_⟩, fun i hi => by omega, ⟨fun t ht => ht, fun t u _ _ e => e⟩⟩
  · intro k hk; rw [rI_7 hk]; decide
  · intro k hk; rw [rI_21 hk]; decide
  · exact g0 0 (by omega)
  · exact (n3 1 (by omega)).trans (rI_z (by omega)).symm
  · exact (n3 2 (by omega)).trans (rI_z (by omega)).symm
  · exact (n3 3 (by omega)).trans (rI_z (by omega)).symm
  · exact (n3 4 (by omega)).trans (rI_z (by omega)).symm
  · exact (n3 5 (by omega)).trans (rI_z (by omega)).symm
  · exact (n3 6 (by omega)).trans (rI_z (by omega)).symm
  · intro k hk; rw [rI_7 hk]; exact n4 k hk
  · intro k hk; rw [rI_21 hk]; exact n5 k hk
  · intro i _ hi
    exact ⟨(n6 i hi).2.1, fun s hs f _ => (n6 i hi).2.2 s hs f⟩
  · intro i hi
    exact Or.inl (n6 i hi).1
  · intro k _ hk
    exact ⟨(n7 k hk).1, fun f f1 _ => (n7 k hk).2 f (by omega)⟩
theorem SP_new {h : zH} {a : Nat} (hN : NSt h a) : SP h a := by
  obtain ⟨n1, n2, n3, n4, n5, n6, n7⟩ := hN
  exact ⟨n1, n2, n3, n4, n5, n7.1, fun k => k, ⟨fun t ht => ht, fun t u _ _ e => e⟩, n7.2.1⟩
theorem CI_new {h : zH} {x : Nat} {F : Nat → Nat → Int32} (hN : NX h x) (hz : x + 355 ≤ zsz h) (h1 : F 1 = rI) : CI h x F 0 0 := by
  obtain ⟨x1, ⟨x2, x3, x4⟩, x5, ⟨y1, y2, y3, y4, y5⟩, x6, x7⟩ := hN
  refine ⟨⟨x1, ⟨y1, y2, y3, y4, fun i hi => ?_⟩, x6, SP_new x5, fun i hi => ?_, ⟨x7.1, fun k => k, ⟨fun t ht => ht, fun t u _ _ e => e⟩, x7.2.1⟩, hz⟩, ⟨0, x2, by omega, x3, by omega, ⟨?_, ?_⟩, fun i hi => by omega⟩, x4, by omega, fun k hk => by omega⟩
  · rw [(y5 i hi).1]; omega
  · have := SP_new (y5 i hi).2
    rw [show x + (46 + 43 * i) = x + 44 + (2 + 43 * i) by omega]
    exact this
  · rw [h1]; exact WX_new x5.2.2.2.2.2.2
  · intro j hj
    rw [h1]
    exact Or.inl ⟨x5.2.2.2.2.2.1 j hj, rI_z (by omega)⟩
theorem NX_tr {h h' : zH} {x : Nat} (hN : NX h x) (hS : SB h h' (x + 348)) : NX h' x := by
  obtain ⟨x1, x2, x5, ⟨y1, y2, y3, y4, y5⟩, x6, x7⟩ := hN
  obtain ⟨a1, a2, a3, a4⟩ := hS x (by omega)
  obtain ⟨b1, b2, b3, b4⟩ := hS (x + 44) (by omega)
  obtain ⟨c1, c2, c3, c4⟩ := hS (x + 304) (by omega)
  obtain ⟨d1, d2, d3, d4⟩ := hS (x + 44 + 1) (by omega)
  obtain ⟨e1, e2, e3, e4⟩ := hS (x + 305) (by omega)
  obtain ⟨f1, f2, f3, f4⟩ := hS (x + 306) (by omega)
  refine ⟨by rw [a1, a4]; exact x1, by rw [b3, c3]; exact x2, NSt_tr x5 (SB_SAME hS (by omega)), ⟨b1.trans y1, by rw [b4]; exact y2, d1.trans y3, d2.trans y4, fun i hi => ⟨by rw [d4]; exact (y5 i hi).1, NSt_tr (y5 i hi).2 (SB_SAME hS (by omega))⟩⟩, ?_, NW_tr x7 (SB_SAME hS (by omega))⟩
  rw [c1, c4, e1, e2, f1, f2]
  exact x6
