def zD : Nat → (Nat → Int32) → Nat → (Nat → Int32)
  | 0, r, _ => r
  | d + 1, r, i => zD d (zup r (221 + 20 * i + 4) (nI 0)) (i + 1)
def eD (nk : Nat) : Nat → (Nat → Int32) → Nat → (Nat → Int32)
  | 0, r, _ => r
  | d + 1, r, i => eD nk d (zup (eaF r i (kO r (nI i) nk)) (221 + 20 * i + 3) (eaF r i (kO r (nI i) nk) (221 + 20 * i + 3) + eaF r i (kO r (nI i) nk) (221 + 20 * i + 4))) (i + 1)
def rK : Nat → (Nat → Int32) → Nat → (Nat → Int32)
  | 0, r, _ => r
  | d + 1, r, k => rK d (rkF r k) (k + 1)
/-- a day passes: the row, how many are missed, what is done -/
def pD (r : Nat → Int32) (nr nk n : Nat) : (Nat → Int32) × Int32 × Int32 :=
  let g := gT nk n (zD nr r 0) 0 n (nI 0) (nI 0)
  let e := zD nr (rK nk (eD nk nr (zup g.1 6 (g.1 6 + g.2.1)) 0) 0) 0
  (zup e 0 (e 0 + nI 1), g.2.1, g.2.2)
theorem zD_at {d i k : Nat} {r : Nat → Int32} (h : ∀ u, i ≤ u → u < i + d → k ≠ 221 + 20 * u + 4) : zD d r i k = r k := by
  induction d generalizing r i with
  | zero => rfl
  | succ d ih => unfold zD; rw [ih (fun u h1 h2 => h u (by omega) (by omega)), zup_ne (h i (by omega) (by omega))]
theorem eaF_at {r : Nat → Int32} {i k j : Nat} (h : j < 221 + 20 * i + 5 ∨ 221 + 20 * i + 20 ≤ j) : eaF r i k j = r j := by
  unfold eaF; rw [ea1_at (by omega), ea1_at (by omega), ea1_at (by omega)]
theorem eD_at {nk d i k : Nat} {r : Nat → Int32} (h : k < 221 ∨ 281 ≤ k) (hd : i + d ≤ 3) : eD nk d r i k = r k := by
  induction d generalizing r i with
  | zero => rfl
  | succ d ih => unfold eD; rw [ih (by omega), zup_ne (by omega), eaF_at (by omega)]
theorem rkF_at {r : Nat → Int32} {k j : Nat} (h : j < 281 + 7 * k + 2 ∨ 281 + 7 * k + 7 ≤ j) : rkF r k j = r j := by
  unfold rkF; (repeat' split) <;> simp (disch := omega) only [zup_ne]
theorem rK_at {d i k : Nat} {r : Nat → Int32} (h : k < 281 ∨ 337 ≤ k ∨ ∃ u, k = 281 + 7 * u + 1) (hd : i + d ≤ 8) : rK d r i k = r k := by
  induction d generalizing r i with
  | zero => rfl
  | succ d ih => unfold rK; rw [ih (by omega), rkF_at (by rcases h with h | h | ⟨u, h⟩ <;> omega)]
def KP (r : Nat → Int32) (nr nk : Nat) : Prop := ∀ k, k < nk → r (281 + 7 * k + 1) = -9 ∨ ∃ i, i < nr ∧ r (281 + 7 * k + 1) = nI i
theorem l_pd4 {E : zE} {Q : Int32 → zH → Prop} {m j nr : Nat} {h : zH} {mi : Int32} (hm : MS h m) (hj : 1 ≤ j ∧ j ≤ 3) (hnr : nr ≤ 3) {k' n' : Nat} (d : Nat) : ∀ (F : Nat → Nat → Int32) (i : Nat), i + d = nr → F j 1 = nI nr →
    Q mi (MST h m (zup F j (zup (zD d (F j) i) 0 (zD d (F j) i 0 + nI 1)))) →
    zJ E mX9_passDay (zQi Q) 110 [some (.inr m), some (.inr (m + j)), some (.inl mi), some (.inl (nI i))] [] (MST h m F) k' n' := by
  obtain ⟨a1, a2, a3⟩ := id (AR_MS hm hj)
  have mk := hm.1
  induction d with
  | zero =>
    intro F i hi h1 hq
    obtain rfl : i = nr := by omega
    simp only [zD] at hq
    (refine jX9_passDay 200 ?_; simp (disch := omega) only [↓wX9_passDay_0, ↓wX9_passDay_1, ↓wX9_passDay_2, ↓wX9_passDay_5, ↓wX9_passDay_6, ↓wX9_passDay_7, ↓wX9_passDay_8, ↓wX9_passDay_9, ↓wX9_passDay_10, ↓wX9_passDay_11, ↓wX9_passDay_14, ↓wX9_passDay_15, ↓wX9_passDay_18, ↓wX9_passDay_20, ↓wX9_passDay_21, ↓wX9_passDay_22, ↓wX9_passDay_23, ↓wX9_passDay_24, ↓wX9_passDay_25, ↓wX9_passDay_26, ↓wX9_passDay_27, ↓wX9_passDay_30, ↓wX9_passDay_33, ↓wX9_passDay_34, ↓wX9_passDay_35, ↓wX9_passDay_38, ↓wX9_passDay_39, ↓wX9_passDay_40, ↓wX9_passDay_42, ↓wX9_passDay_43, ↓wX9_passDay_44, ↓wX9_passDay_45, ↓wX9_passDay_46, ↓wX9_passDay_47, ↓wX9_passDay_48, ↓wX9_passDay_49, ↓wX9_passDay_50, ↓wX9_passDay_51, ↓wX9_passDay_52, ↓wX9_passDay_53, ↓wX9_passDay_56, ↓wX9_passDay_57, ↓wX9_passDay_58, ↓wX9_passDay_61, ↓wX9_passDay_62, ↓wX9_passDay_65, ↓wX9_passDay_67, ↓wX9_passDay_68, ↓wX9_passDay_69, ↓wX9_passDay_70, ↓wX9_passDay_71, ↓wX9_passDay_72, ↓wX9_passDay_73, ↓wX9_passDay_74, ↓wX9_passDay_75, ↓wX9_passDay_76, ↓wX9_passDay_77, ↓wX9_passDay_80, ↓wX9_passDay_81, ↓wX9_passDay_82, ↓wX9_passDay_85, ↓wX9_passDay_88, ↓wX9_passDay_89, ↓wX9_passDay_90, ↓wX9_passDay_91, ↓wX9_passDay_92, ↓wX9_passDay_93, ↓wX9_passDay_94, ↓wX9_passDay_97, ↓wX9_passDay_98, ↓wX9_passDay_99, ↓wX9_passDay_102, ↓wX9_passDay_105, ↓wX9_passDay_108, ↓wX9_passDay_109, ↓wX9_passDay_110, ↓wX9_passDay_111, ↓wX9_passDay_112, ↓wX9_passDay_113, ↓wX9_passDay_114, ↓wX9_passDay_117, ↓wX9_passDay_118, ↓wX9_passDay_121, ↓wX9_passDay_123, ↓wX9_passDay_124, ↓wX9_passDay_125, ↓wX9_passDay_126, ↓wX9_passDay_127, ↓wX9_passDay_128, ↓wX9_passDay_129, ↓wX9_passDay_130, ↓wX9_passDay_133, ↓wX9_passDay_136, ↓wX9_passDay_137, ↓wX9_passDay_138, ↓wX9_passDay_139, ↓wX9_passDay_140, ↓wX9_passDay_141, ↓wX9_passDay_142, ↓wX9_passDay_143, ↓wX9_passDay_144, zQi_def, zQa_def, zQv_def, nI00, nI10, nI11, nI01, true_or, or_true, false_or, or_false, eq_self, true_implies, false_implies, not_true_eq_false, not_false_eq_true, zc9, zc1, zc2, zc3, zc1000, nI_m9, nI_add, pk_mul, ix_nI, vpT, zk_zpi, zn_zpi, zr_zpi, zk_zpa, zn_zpa, zr_zpa, zsz_zpi, zsz_zpa, zi_zpa, zpi_pa, zpa_zpa, true_and, and_true, and_self, zk_MST, zn_MST, zr_MST, zsz_MST, zi_MST, zi_MST0, zpa_MST, zpa_MST0, zup_eq, zup_ne, h1, nI_leI, a1, Nat.le_refl])
    repeat' (first | (with_reducible assumption) | (with_reducible decide) | (simp (disch := omega) only [nI00, nI10, nI11, nI01, true_or, or_true, false_or, or_false, eq_self, true_implies, false_implies, not_true_eq_false, not_false_eq_true, zc9, zc1, zc2, zc3, zc1000, nI_m9, nI_add, pk_mul, ix_nI, vpT, zk_zpi, zn_zpi, zr_zpi, zk_zpa, zn_zpa, zr_zpa, zsz_zpi, zsz_zpa, zi_zpa, zpi_pa, zpa_zpa, true_and, and_true, and_self, zk_MST, zn_MST, zr_MST, zsz_MST, zi_MST, zi_MST0, zpa_MST, zpa_MST0, zup_eq, zup_ne]) | (with_reducible apply And.intro) | (with_reducible intro _) | (refine c_in ?_) | (refine c_less ?_) | (refine c_ofRock (by assumption) (by omega) (by omega) ?_) | (refine c_ofKeeper (by assumption) (by omega) (by omega) ?_) | (refine c_setKeeper (by assumption) (by omega) (by omega) ?_) | (refine c_ofTurn (by assumption) (by omega) (by omega) ?_) | (refine c_setTurn (by assumption) (by omega) (by omega) ?_) | (refine c_storeAt ?_))
  | succ d ih =>
    intro F i hi h1 hq
    have hle : ¬ nr ≤ i := by omega
    unfold zD at hq
    (refine jX9_passDay 200 ?_; simp (disch := omega) only [↓wX9_passDay_0, ↓wX9_passDay_1, ↓wX9_passDay_2, ↓wX9_passDay_5, ↓wX9_passDay_6, ↓wX9_passDay_7, ↓wX9_passDay_8, ↓wX9_passDay_9, ↓wX9_passDay_10, ↓wX9_passDay_11, ↓wX9_passDay_14, ↓wX9_passDay_15, ↓wX9_passDay_18, ↓wX9_passDay_20, ↓wX9_passDay_21, ↓wX9_passDay_22, ↓wX9_passDay_23, ↓wX9_passDay_24, ↓wX9_passDay_25, ↓wX9_passDay_26, ↓wX9_passDay_27, ↓wX9_passDay_30, ↓wX9_passDay_33, ↓wX9_passDay_34, ↓wX9_passDay_35, ↓wX9_passDay_38, ↓wX9_passDay_39, ↓wX9_passDay_40, ↓wX9_passDay_42, ↓wX9_passDay_43, ↓wX9_passDay_44, ↓wX9_passDay_45, ↓wX9_passDay_46, ↓wX9_passDay_47, ↓wX9_passDay_48, ↓wX9_passDay_49, ↓wX9_passDay_50, ↓wX9_passDay_51, ↓wX9_passDay_52, ↓wX9_passDay_53, ↓wX9_passDay_56, ↓wX9_passDay_57, ↓wX9_passDay_58, ↓wX9_passDay_61, ↓wX9_passDay_62, ↓wX9_passDay_65, ↓wX9_passDay_67, ↓wX9_passDay_68, ↓wX9_passDay_69, ↓wX9_passDay_70, ↓wX9_passDay_71, ↓wX9_passDay_72, ↓wX9_passDay_73, ↓wX9_passDay_74, ↓wX9_passDay_75, ↓wX9_passDay_76, ↓wX9_passDay_77, ↓wX9_passDay_80, ↓wX9_passDay_81, ↓wX9_passDay_82, ↓wX9_passDay_85, ↓wX9_passDay_88, ↓wX9_passDay_89, ↓wX9_passDay_90, ↓wX9_passDay_91, ↓wX9_passDay_92, ↓wX9_passDay_93, ↓wX9_passDay_94, ↓wX9_passDay_97, ↓wX9_passDay_98, ↓wX9_passDay_99, ↓wX9_passDay_102, ↓wX9_passDay_105, ↓wX9_passDay_108, ↓wX9_passDay_109, ↓wX9_passDay_110, ↓wX9_passDay_111, ↓wX9_passDay_112, ↓wX9_passDay_113, ↓wX9_passDay_114, ↓wX9_passDay_117, ↓wX9_passDay_118, ↓wX9_passDay_121, ↓wX9_passDay_123, ↓wX9_passDay_124, ↓wX9_passDay_125, ↓wX9_passDay_126, ↓wX9_passDay_127, ↓wX9_passDay_128, ↓wX9_passDay_129, ↓wX9_passDay_130, ↓wX9_passDay_133, ↓wX9_passDay_136, ↓wX9_passDay_137, ↓wX9_passDay_138, ↓wX9_passDay_139, ↓wX9_passDay_140, ↓wX9_passDay_141, ↓wX9_passDay_142, ↓wX9_passDay_143, ↓wX9_passDay_144, zQi_def, zQa_def, zQv_def, nI00, nI10, nI11, nI01, true_or, or_true, false_or, or_false, eq_self, true_implies, false_implies, not_true_eq_false, not_false_eq_true, zc9, zc1, zc2, zc3, zc1000, nI_m9, nI_add, pk_mul, ix_nI, vpT, zk_zpi, zn_zpi, zr_zpi, zk_zpa, zn_zpa, zr_zpa, zsz_zpi, zsz_zpa, zi_zpa, zpi_pa, zpa_zpa, true_and, and_true, and_self, zk_MST, zn_MST, zr_MST, zsz_MST, zi_MST, zi_MST0, zpa_MST, zpa_MST0, zup_eq, zup_ne, h1, nI_leI, a1, hle])
    refine ih _ (i + 1) (by omega) ?_ ?_
    · simp (disch := omega) only [zup_eq, zup_ne]; exact h1
    · simp (disch := omega) only [zup_eq, zup_zup]; exact hq
theorem l_pd3 {E : zE} {Q : Int32 → zH → Prop} {m j nr nk : Nat} {h : zH} {mi : Int32} (hm : MS h m) (hj : 1 ≤ j ∧ j ≤ 3) (hnr : nr ≤ 3) (hnk : nk ≤ 8) {k' n' : Nat} (d : Nat) : ∀ (F : Nat → Nat → Int32) (i : Nat), i + d = nk → F j 2 = nI nk → KP (F j) nr nk →
    zJ E mX9_passDay (zQi Q) 110 [some (.inr m), some (.inr (m + j)), some (.inl mi), some (.inl (nI 0))] [] (MST h m (zup F j (rK d (F j) i))) k' n' →
    zJ E mX9_passDay (zQi Q) 90 [some (.inr m), some (.inr (m + j)), some (.inl mi), some (.inl (nI i))] [] (MST h m F) k' n' := by
  have har := AR_MS hm hj
  obtain ⟨a1, a2, a3⟩ := id (AR_MS hm hj)
  have mk := hm.1
  induction d with
  | zero =>
    intro F i hi h1 hK hq
    obtain rfl : i = nk := by omega
    simp only [rK, zup_self] at hq
    (refine jX9_passDay 200 ?_; simp (disch := omega) only [↓wX9_passDay_0, ↓wX9_passDay_1, ↓wX9_passDay_2, ↓wX9_passDay_5, ↓wX9_passDay_6, ↓wX9_passDay_7, ↓wX9_passDay_8, ↓wX9_passDay_9, ↓wX9_passDay_10, ↓wX9_passDay_11, ↓wX9_passDay_14, ↓wX9_passDay_15, ↓wX9_passDay_18, ↓wX9_passDay_20, ↓wX9_passDay_21, ↓wX9_passDay_22, ↓wX9_passDay_23, ↓wX9_passDay_24, ↓wX9_passDay_25, ↓wX9_passDay_26, ↓wX9_passDay_27, ↓wX9_passDay_30, ↓wX9_passDay_33, ↓wX9_passDay_34, ↓wX9_passDay_35, ↓wX9_passDay_38, ↓wX9_passDay_39, ↓wX9_passDay_40, ↓wX9_passDay_42, ↓wX9_passDay_43, ↓wX9_passDay_44, ↓wX9_passDay_45, ↓wX9_passDay_46, ↓wX9_passDay_47, ↓wX9_passDay_48, ↓wX9_passDay_49, ↓wX9_passDay_50, ↓wX9_passDay_51, ↓wX9_passDay_52, ↓wX9_passDay_53, ↓wX9_passDay_56, ↓wX9_passDay_57, ↓wX9_passDay_58, ↓wX9_passDay_61, ↓wX9_passDay_62, ↓wX9_passDay_65, ↓wX9_passDay_67, ↓wX9_passDay_68, ↓wX9_passDay_69, ↓wX9_passDay_70, ↓wX9_passDay_71, ↓wX9_passDay_72, ↓wX9_passDay_73, ↓wX9_passDay_74, ↓wX9_passDay_75, ↓wX9_passDay_76, ↓wX9_passDay_77, ↓wX9_passDay_80, ↓wX9_passDay_81, ↓wX9_passDay_82, ↓wX9_passDay_85, ↓wX9_passDay_88, ↓wX9_passDay_89, ↓wX9_passDay_90, ↓wX9_passDay_91, ↓wX9_passDay_92, ↓wX9_passDay_93, ↓wX9_passDay_94, ↓wX9_passDay_97, ↓wX9_passDay_98, ↓wX9_passDay_99, ↓wX9_passDay_102, ↓wX9_passDay_105, ↓wX9_passDay_108, ↓wX9_passDay_109, ↓wX9_passDay_110, ↓wX9_passDay_111, ↓wX9_passDay_112, ↓wX9_passDay_113, ↓wX9_passDay_114, ↓wX9_passDay_117, ↓wX9_passDay_118, ↓wX9_passDay_121, ↓wX9_passDay_123, ↓wX9_passDay_124, ↓wX9_passDay_125, ↓wX9_passDay_126, ↓wX9_passDay_127, ↓wX9_passDay_128, ↓wX9_passDay_129, ↓wX9_passDay_130, ↓wX9_passDay_133, ↓wX9_passDay_136, ↓wX9_passDay_137, ↓wX9_passDay_138, ↓wX9_passDay_139, ↓wX9_passDay_140, ↓wX9_passDay_141, ↓wX9_passDay_142, ↓wX9_passDay_143, ↓wX9_passDay_144, zQi_def, zQa_def, zQv_def, nI00, nI10, nI11, nI01, true_or, or_true, false_or, or_false, eq_self, true_implies, false_implies, not_true_eq_false, not_false_eq_true, zc9, zc1, zc2, zc3, zc1000, nI_m9, nI_add, pk_mul, ix_nI, vpT, zk_zpi, zn_zpi, zr_zpi, zk_zpa, zn_zpa, zr_zpa, zsz_zpi, zsz_zpa, zi_zpa, zpi_pa, zpa_zpa, true_and, and_true, and_self, zk_MST, zn_MST, zr_MST, zsz_MST, zi_MST, zi_MST0, zpa_MST, zpa_MST0, zup_eq, zup_ne, h1, nI_leI, a1, Nat.le_refl])
    exact hq
  | succ d ih =>
    intro F i hi h1 hK hq
    have hle : ¬ nk ≤ i := by omega
    unfold rK at hq
    (refine jX9_passDay 200 ?_; simp (disch := omega) only [↓wX9_passDay_0, ↓wX9_passDay_1, ↓wX9_passDay_2, ↓wX9_passDay_5, ↓wX9_passDay_6, ↓wX9_passDay_7, ↓wX9_passDay_8, ↓wX9_passDay_9, ↓wX9_passDay_10, ↓wX9_passDay_11, ↓wX9_passDay_14, ↓wX9_passDay_15, ↓wX9_passDay_18, ↓wX9_passDay_20, ↓wX9_passDay_21, ↓wX9_passDay_22, ↓wX9_passDay_23, ↓wX9_passDay_24, ↓wX9_passDay_25, ↓wX9_passDay_26, ↓wX9_passDay_27, ↓wX9_passDay_30, ↓wX9_passDay_33, ↓wX9_passDay_34, ↓wX9_passDay_35, ↓wX9_passDay_38, ↓wX9_passDay_39, ↓wX9_passDay_40, ↓wX9_passDay_42, ↓wX9_passDay_43, ↓wX9_passDay_44, ↓wX9_passDay_45, ↓wX9_passDay_46, ↓wX9_passDay_47, ↓wX9_passDay_48, ↓wX9_passDay_49, ↓wX9_passDay_50, ↓wX9_passDay_51, ↓wX9_passDay_52, ↓wX9_passDay_53, ↓wX9_passDay_56, ↓wX9_passDay_57, ↓wX9_passDay_58, ↓wX9_passDay_61, ↓wX9_passDay_62, ↓wX9_passDay_65, ↓wX9_passDay_67, ↓wX9_passDay_68, ↓wX9_passDay_69, ↓wX9_passDay_70, ↓wX9_passDay_71, ↓wX9_passDay_72, ↓wX9_passDay_73, ↓wX9_passDay_74, ↓wX9_passDay_75, ↓wX9_passDay_76, ↓wX9_passDay_77, ↓wX9_passDay_80, ↓wX9_passDay_81, ↓wX9_passDay_82, ↓wX9_passDay_85, ↓wX9_passDay_88, ↓wX9_passDay_89, ↓wX9_passDay_90, ↓wX9_passDay_91, ↓wX9_passDay_92, ↓wX9_passDay_93, ↓wX9_passDay_94, ↓wX9_passDay_97, ↓wX9_passDay_98, ↓wX9_passDay_99, ↓wX9_passDay_102, ↓wX9_passDay_105, ↓wX9_passDay_108, ↓wX9_passDay_109, ↓wX9_passDay_110, ↓wX9_passDay_111, ↓wX9_passDay_112, ↓wX9_passDay_113, ↓wX9_passDay_114, ↓wX9_passDay_117, ↓wX9_passDay_118, ↓wX9_passDay_121, ↓wX9_passDay_123, ↓wX9_passDay_124, ↓wX9_passDay_125, ↓wX9_passDay_126, ↓wX9_passDay_127, ↓wX9_passDay_128, ↓wX9_passDay_129, ↓wX9_passDay_130, ↓wX9_passDay_133, ↓wX9_passDay_136, ↓wX9_passDay_137, ↓wX9_passDay_138, ↓wX9_passDay_139, ↓wX9_passDay_140, ↓wX9_passDay_141, ↓wX9_passDay_142, ↓wX9_passDay_143, ↓wX9_passDay_144, zQi_def, zQa_def, zQv_def, nI00, nI10, nI11, nI01, true_or, or_true, false_or, or_false, eq_self, true_implies, false_implies, not_true_eq_false, not_false_eq_true, zc9, zc1, zc2, zc3, zc1000, nI_m9, nI_add, pk_mul, ix_nI, vpT, zk_zpi, zn_zpi, zr_zpi, zk_zpa, zn_zpa, zr_zpa, zsz_zpi, zsz_zpa, zi_zpa, zpi_pa, zpa_zpa, true_and, and_true, and_self, zk_MST, zn_MST, zr_MST, zsz_MST, zi_MST, zi_MST0, zpa_MST, zpa_MST0, zup_eq, zup_ne, h1, nI_leI, a1, hle])
    refine c_reckon har (by omega) ?_ ?_
    · simp (disch := omega) only [zi_MST]
      exact (hK i (by omega)).imp id fun ⟨q, q1, q2⟩ => ⟨q, by omega, q2⟩
    simp (disch := omega) only [nI00, nI10, nI11, nI01, true_or, or_true, false_or, or_false, eq_self, true_implies, false_implies, not_true_eq_false, not_false_eq_true, zc9, zc1, zc2, zc3, zc1000, nI_m9, nI_add, pk_mul, ix_nI, vpT, zk_zpi, zn_zpi, zr_zpi, zk_zpa, zn_zpa, zr_zpa, zsz_zpi, zsz_zpa, zi_zpa, zpi_pa, zpa_zpa, true_and, and_true, and_self, zk_MST, zn_MST, zr_MST, zsz_MST, zi_MST, zi_MST0, zpa_MST, zpa_MST0, zup_eq, zup_ne]
    refine ih _ (i + 1) (by omega) ?_ ?_ ?_
    · simp (disch := omega) only [zup_eq, rkF_at]; exact h1
    · simp (disch := omega) only [zup_eq]
      intro k hk
      rw [rkF_at (by omega)]
      exact hK k hk
    · simp (disch := omega) only [zup_eq, zup_zup]; exact hq
theorem l_pd2 {E : zE} {Q : Int32 → zH → Prop} {m j nr nk : Nat} {h : zH} {mi : Int32} (hm : MS h m) (hj : 1 ≤ j ∧ j ≤ 3) (hnr : nr ≤ 3) (hnk : nk ≤ 8) {k' n' : Nat} (d : Nat) : ∀ (F : Nat → Nat → Int32) (i : Nat), i + d = nr → F j 1 = nI nr → F j 2 = nI nk →
    zJ E mX9_passDay (zQi Q) 90 [some (.inr m), some (.inr (m + j)), some (.inl mi), some (.inl (nI 0))] [] (MST h m (zup F j (eD nk d (F j) i))) k' n' →
    zJ E mX9_passDay (zQi Q) 49 [some (.inr m), some (.inr (m + j)), some (.inl mi), some (.inl (nI i))] [] (MST h m F) k' n' := by
  have har := AR_MS hm hj
  obtain ⟨a1, a2, a3⟩ := id (AR_MS hm hj)
  have mk := hm.1
  induction d with
  | zero =>
    intro F i hi h1 h2 hq
    obtain rfl : i = nr := by omega
    simp only [eD, zup_self] at hq
    (refine jX9_passDay 200 ?_; simp (disch := omega) only [↓wX9_passDay_0, ↓wX9_passDay_1, ↓wX9_passDay_2, ↓wX9_passDay_5, ↓wX9_passDay_6, ↓wX9_passDay_7, ↓wX9_passDay_8, ↓wX9_passDay_9, ↓wX9_passDay_10, ↓wX9_passDay_11, ↓wX9_passDay_14, ↓wX9_passDay_15, ↓wX9_passDay_18, ↓wX9_passDay_20, ↓wX9_passDay_21, ↓wX9_passDay_22, ↓wX9_passDay_23, ↓wX9_passDay_24, ↓wX9_passDay_25, ↓wX9_passDay_26, ↓wX9_passDay_27, ↓wX9_passDay_30, ↓wX9_passDay_33, ↓wX9_passDay_34, ↓wX9_passDay_35, ↓wX9_passDay_38, ↓wX9_passDay_39, ↓wX9_passDay_40, ↓wX9_passDay_42, ↓wX9_passDay_43, ↓wX9_passDay_44, ↓wX9_passDay_45, ↓wX9_passDay_46, ↓wX9_passDay_47, ↓wX9_passDay_48, ↓wX9_passDay_49, ↓wX9_passDay_50, ↓wX9_passDay_51, ↓wX9_passDay_52, ↓wX9_passDay_53, ↓wX9_passDay_56, ↓wX9_passDay_57, ↓wX9_passDay_58, ↓wX9_passDay_61, ↓wX9_passDay_62, ↓wX9_passDay_65, ↓wX9_passDay_67, ↓wX9_passDay_68, ↓wX9_passDay_69, ↓wX9_passDay_70, ↓wX9_passDay_71, ↓wX9_passDay_72, ↓wX9_passDay_73, ↓wX9_passDay_74, ↓wX9_passDay_75, ↓wX9_passDay_76, ↓wX9_passDay_77, ↓wX9_passDay_80, ↓wX9_passDay_81, ↓wX9_passDay_82, ↓wX9_passDay_85, ↓wX9_passDay_88, ↓wX9_passDay_89, ↓wX9_passDay_90, ↓wX9_passDay_91, ↓wX9_passDay_92, ↓wX9_passDay_93, ↓wX9_passDay_94, ↓wX9_passDay_97, ↓wX9_passDay_98, ↓wX9_passDay_99, ↓wX9_passDay_102, ↓wX9_passDay_105, ↓wX9_passDay_108, ↓wX9_passDay_109, ↓wX9_passDay_110, ↓wX9_passDay_111, ↓wX9_passDay_112, ↓wX9_passDay_113, ↓wX9_passDay_114, ↓wX9_passDay_117, ↓wX9_passDay_118, ↓wX9_passDay_121, ↓wX9_passDay_123, ↓wX9_passDay_124, ↓wX9_passDay_125, ↓wX9_passDay_126, ↓wX9_passDay_127, ↓wX9_passDay_128, ↓wX9_passDay_129, ↓wX9_passDay_130, ↓wX9_passDay_133, ↓wX9_passDay_136, ↓wX9_passDay_137, ↓wX9_passDay_138, ↓wX9_passDay_139, ↓wX9_passDay_140, ↓wX9_passDay_141, ↓wX9_passDay_142, ↓wX9_passDay_143, ↓wX9_passDay_144, zQi_def, zQa_def, zQv_def, nI00, nI10, nI11, nI01, true_or, or_true, false_or, or_false, eq_self, true_implies, false_implies, not_true_eq_false, not_false_eq_true, zc9, zc1, zc2, zc3, zc1000, nI_m9, nI_add, pk_mul, ix_nI, vpT, zk_zpi, zn_zpi, zr_zpi, zk_zpa, zn_zpa, zr_zpa, zsz_zpi, zsz_zpa, zi_zpa, zpi_pa, zpa_zpa, true_and, and_true, and_self, zk_MST, zn_MST, zr_MST, zsz_MST, zi_MST, zi_MST0, zpa_MST, zpa_MST0, zup_eq, zup_ne, h1, nI_leI, a1, Nat.le_refl])
    exact hq
  | succ d ih =>
    intro F i hi h1 h2 hq
    have hle : ¬ nr ≤ i := by omega
    unfold eD at hq
    (refine jX9_passDay 200 ?_; simp (disch := omega) only [↓wX9_passDay_0, ↓wX9_passDay_1, ↓wX9_passDay_2, ↓wX9_passDay_5, ↓wX9_passDay_6, ↓wX9_passDay_7, ↓wX9_passDay_8, ↓wX9_passDay_9, ↓wX9_passDay_10, ↓wX9_passDay_11, ↓wX9_passDay_14, ↓wX9_passDay_15, ↓wX9_passDay_18, ↓wX9_passDay_20, ↓wX9_passDay_21, ↓wX9_passDay_22, ↓wX9_passDay_23, ↓wX9_passDay_24, ↓wX9_passDay_25, ↓wX9_passDay_26, ↓wX9_passDay_27, ↓wX9_passDay_30, ↓wX9_passDay_33, ↓wX9_passDay_34, ↓wX9_passDay_35, ↓wX9_passDay_38, ↓wX9_passDay_39, ↓wX9_passDay_40, ↓wX9_passDay_42, ↓wX9_passDay_43, ↓wX9_passDay_44, ↓wX9_passDay_45, ↓wX9_passDay_46, ↓wX9_passDay_47, ↓wX9_passDay_48, ↓wX9_passDay_49, ↓wX9_passDay_50, ↓wX9_passDay_51, ↓wX9_passDay_52, ↓wX9_passDay_53, ↓wX9_passDay_56, ↓wX9_passDay_57, ↓wX9_passDay_58, ↓wX9_passDay_61, ↓wX9_passDay_62, ↓wX9_passDay_65, ↓wX9_passDay_67, ↓wX9_passDay_68, ↓wX9_passDay_69, ↓wX9_passDay_70, ↓wX9_passDay_71, ↓wX9_passDay_72, ↓wX9_passDay_73, ↓wX9_passDay_74, ↓wX9_passDay_75, ↓wX9_passDay_76, ↓wX9_passDay_77, ↓wX9_passDay_80, ↓wX9_passDay_81, ↓wX9_passDay_82, ↓wX9_passDay_85, ↓wX9_passDay_88, ↓wX9_passDay_89, ↓wX9_passDay_90, ↓wX9_passDay_91, ↓wX9_passDay_92, ↓wX9_passDay_93, ↓wX9_passDay_94, ↓wX9_passDay_97, ↓wX9_passDay_98, ↓wX9_passDay_99, ↓wX9_passDay_102, ↓wX9_passDay_105, ↓wX9_passDay_108, ↓wX9_passDay_109, ↓wX9_passDay_110, ↓wX9_passDay_111, ↓wX9_passDay_112, ↓wX9_passDay_113, ↓wX9_passDay_114, ↓wX9_passDay_117, ↓wX9_passDay_118, ↓wX9_passDay_121, ↓wX9_passDay_123, ↓wX9_passDay_124, ↓wX9_passDay_125, ↓wX9_passDay_126, ↓wX9_passDay_127, ↓wX9_passDay_128, ↓wX9_passDay_129, ↓wX9_passDay_130, ↓wX9_passDay_133, ↓wX9_passDay_136, ↓wX9_passDay_137, ↓wX9_passDay_138, ↓wX9_passDay_139, ↓wX9_passDay_140, ↓wX9_passDay_141, ↓wX9_passDay_142, ↓wX9_passDay_143, ↓wX9_passDay_144, zQi_def, zQa_def, zQv_def, nI00, nI10, nI11, nI01, true_or, or_true, false_or, or_false, eq_self, true_implies, false_implies, not_true_eq_false, not_false_eq_true, zc9, zc1, zc2, zc3, zc1000, nI_m9, nI_add, pk_mul, ix_nI, vpT, zk_zpi, zn_zpi, zr_zpi, zk_zpa, zn_zpa, zr_zpa, zsz_zpi, zsz_zpa, zi_zpa, zpi_pa, zpa_zpa, true_and, and_true, and_self, zk_MST, zn_MST, zr_MST, zsz_MST, zi_MST, zi_MST0, zpa_MST, zpa_MST0, zup_eq, zup_ne, h1, nI_leI, a1, hle])
    refine c_eat har (by omega) hnk (n := nk) ?_ ?_
    · simp (disch := omega) only [zi_MST]; exact h2
    simp (disch := omega) only [nI00, nI10, nI11, nI01, true_or, or_true, false_or, or_false, eq_self, true_implies, false_implies, not_true_eq_false, not_false_eq_true, zc9, zc1, zc2, zc3, zc1000, nI_m9, nI_add, pk_mul, ix_nI, vpT, zk_zpi, zn_zpi, zr_zpi, zk_zpa, zn_zpa, zr_zpa, zsz_zpi, zsz_zpa, zi_zpa, zpi_pa, zpa_zpa, true_and, and_true, and_self, zk_MST, zn_MST, zr_MST, zsz_MST, zi_MST, zi_MST0, zpa_MST, zpa_MST0, zup_eq, zup_ne, a1]
    refine c_ofRock har (by omega) (by omega) ?_
    simp (disch := omega) only [nI00, nI10, nI11, nI01, true_or, or_true, false_or, or_false, eq_self, true_implies, false_implies, not_true_eq_false, not_false_eq_true, zc9, zc1, zc2, zc3, zc1000, nI_m9, nI_add, pk_mul, ix_nI, vpT, zk_zpi, zn_zpi, zr_zpi, zk_zpa, zn_zpa, zr_zpa, zsz_zpi, zsz_zpa, zi_zpa, zpi_pa, zpa_zpa, true_and, and_true, and_self, zk_MST, zn_MST, zr_MST, zsz_MST, zi_MST, zi_MST0, zpa_MST, zpa_MST0, zup_eq, zup_ne, a1]
    refine ih _ (i + 1) (by omega) ?_ ?_ ?_
    · simp (disch := omega) only [zup_eq, zup_ne, eaF_at]; exact h1
    · simp (disch := omega) only [zup_eq, zup_ne, eaF_at]; exact h2
    · simp (disch := omega) only [zup_eq, zup_zup]; exact hq
theorem l_pd1 {E : zE} {Q : Int32 → zH → Prop} {m j n nr nk td : Nat} {h : zH} {l3 : Option zV} (hm : MS h m) (hj : 1 ≤ j ∧ j ≤ 3) (hnr : nr ≤ 3) {k' n' : Nat} (d : Nat) : ∀ (F : Nat → Nat → Int32) (i : Nat), i + d = nr → F j 1 = nI nr → GI (zD d (F j) i) n nr nk td →
    zJ E mX9_passDay (zQi Q) 49 [some (.inr m), some (.inr (m + j)), some (.inl (gT nk n (zD d (F j) i) 0 n (nI 0) (F 0 9)).2.1), some (.inl (nI 0))] [] (MST h m (zup (zup F j (zup (gT nk n (zD d (F j) i) 0 n (nI 0) (F 0 9)).1 6 ((gT nk n (zD d (F j) i) 0 n (nI 0) (F 0 9)).1 6 + (gT nk n (zD d (F j) i) 0 n (nI 0) (F 0 9)).2.1))) 0 (zup (F 0) 9 (gT nk n (zD d (F j) i) 0 n (nI 0) (F 0 9)).2.2))) k' n' →
    zJ E mX9_passDay (zQi Q) 7 [some (.inr m), some (.inr (m + j)), some (.inl (nI i)), l3] [] (MST h m F) k' n' := by
  obtain ⟨a1, a2, a3⟩ := id (AR_MS hm hj)
  have mk := hm.1
  induction d with
  | zero =>
    intro F i hi h1 hG hq
    obtain rfl : i = nr := by omega
    simp only [zD] at hq hG
    (refine jX9_passDay 200 ?_; simp (disch := omega) only [↓wX9_passDay_0, ↓wX9_passDay_1, ↓wX9_passDay_2, ↓wX9_passDay_5, ↓wX9_passDay_6, ↓wX9_passDay_7, ↓wX9_passDay_8, ↓wX9_passDay_9, ↓wX9_passDay_10, ↓wX9_passDay_11, ↓wX9_passDay_14, ↓wX9_passDay_15, ↓wX9_passDay_18, ↓wX9_passDay_20, ↓wX9_passDay_21, ↓wX9_passDay_22, ↓wX9_passDay_23, ↓wX9_passDay_24, ↓wX9_passDay_25, ↓wX9_passDay_26, ↓wX9_passDay_27, ↓wX9_passDay_30, ↓wX9_passDay_33, ↓wX9_passDay_34, ↓wX9_passDay_35, ↓wX9_passDay_38, ↓wX9_passDay_39, ↓wX9_passDay_40, ↓wX9_passDay_42, ↓wX9_passDay_43, ↓wX9_passDay_44, ↓wX9_passDay_45, ↓wX9_passDay_46, ↓wX9_passDay_47, ↓wX9_passDay_48, ↓wX9_passDay_49, ↓wX9_passDay_50, ↓wX9_passDay_51, ↓wX9_passDay_52, ↓wX9_passDay_53, ↓wX9_passDay_56, ↓wX9_passDay_57, ↓wX9_passDay_58, ↓wX9_passDay_61, ↓wX9_passDay_62, ↓wX9_passDay_65, ↓wX9_passDay_67, ↓wX9_passDay_68, ↓wX9_passDay_69, ↓wX9_passDay_70, ↓wX9_passDay_71, ↓wX9_passDay_72, ↓wX9_passDay_73, ↓wX9_passDay_74, ↓wX9_passDay_75, ↓wX9_passDay_76, ↓wX9_passDay_77, ↓wX9_passDay_80, ↓wX9_passDay_81, ↓wX9_passDay_82, ↓wX9_passDay_85, ↓wX9_passDay_88, ↓wX9_passDay_89, ↓wX9_passDay_90, ↓wX9_passDay_91, ↓wX9_passDay_92, ↓wX9_passDay_93, ↓wX9_passDay_94, ↓wX9_passDay_97, ↓wX9_passDay_98, ↓wX9_passDay_99, ↓wX9_passDay_102, ↓wX9_passDay_105, ↓wX9_passDay_108, ↓wX9_passDay_109, ↓wX9_passDay_110, ↓wX9_passDay_111, ↓wX9_passDay_112, ↓wX9_passDay_113, ↓wX9_passDay_114, ↓wX9_passDay_117, ↓wX9_passDay_118, ↓wX9_passDay_121, ↓wX9_passDay_123, ↓wX9_passDay_124, ↓wX9_passDay_125, ↓wX9_passDay_126, ↓wX9_passDay_127, ↓wX9_passDay_128, ↓wX9_passDay_129, ↓wX9_passDay_130, ↓wX9_passDay_133, ↓wX9_passDay_136, ↓wX9_passDay_137, ↓wX9_passDay_138, ↓wX9_passDay_139, ↓wX9_passDay_140, ↓wX9_passDay_141, ↓wX9_passDay_142, ↓wX9_passDay_143, ↓wX9_passDay_144, zQi_def, zQa_def, zQv_def, nI00, nI10, nI11, nI01, true_or, or_true, false_or, or_false, eq_self, true_implies, false_implies, not_true_eq_false, not_false_eq_true, zc9, zc1, zc2, zc3, zc1000, nI_m9, nI_add, pk_mul, ix_nI, vpT, zk_zpi, zn_zpi, zr_zpi, zk_zpa, zn_zpa, zr_zpa, zsz_zpi, zsz_zpa, zi_zpa, zpi_pa, zpa_zpa, true_and, and_true, and_self, zk_MST, zn_MST, zr_MST, zsz_MST, zi_MST, zi_MST0, zpa_MST, zpa_MST0, zup_eq, zup_ne, h1, nI_leI, a1, Nat.le_refl, mk])
    refine c_goThrough hm hj hG ?_
    simp (disch := omega) only [nI00, nI10, nI11, nI01, true_or, or_true, false_or, or_false, eq_self, true_implies, false_implies, not_true_eq_false, not_false_eq_true, zc9, zc1, zc2, zc3, zc1000, nI_m9, nI_add, pk_mul, ix_nI, vpT, zk_zpi, zn_zpi, zr_zpi, zk_zpa, zn_zpa, zr_zpa, zsz_zpi, zsz_zpa, zi_zpa, zpi_pa, zpa_zpa, true_and, and_true, and_self, zk_MST, zn_MST, zr_MST, zsz_MST, zi_MST, zi_MST0, zpa_MST, zpa_MST0, zup_eq, zup_ne, a1]
    refine cast ?_ hq
    congr 2
    funext q
    by_cases hq0 : q = 0
    · rw [zup_eq hq0, zup_ne (by omega), zup_eq hq0]
    · by_cases hqj : q = j
      · rw [zup_ne hq0, zup_eq hqj, zup_eq hqj]
      · rw [zup_ne hq0, zup_ne hqj, zup_ne hqj, zup_ne hq0, zup_ne hqj]
  | succ d ih =>
    intro F i hi h1 hG hq
    have hle : ¬ nr ≤ i := by omega
    unfold zD at hq hG
    (refine jX9_passDay 200 ?_; simp (disch := omega) only [↓wX9_passDay_0, ↓wX9_passDay_1, ↓wX9_passDay_2, ↓wX9_passDay_5, ↓wX9_passDay_6, ↓wX9_passDay_7, ↓wX9_passDay_8, ↓wX9_passDay_9, ↓wX9_passDay_10, ↓wX9_passDay_11, ↓wX9_passDay_14, ↓wX9_passDay_15, ↓wX9_passDay_18, ↓wX9_passDay_20, ↓wX9_passDay_21, ↓wX9_passDay_22, ↓wX9_passDay_23, ↓wX9_passDay_24, ↓wX9_passDay_25, ↓wX9_passDay_26, ↓wX9_passDay_27, ↓wX9_passDay_30, ↓wX9_passDay_33, ↓wX9_passDay_34, ↓wX9_passDay_35, ↓wX9_passDay_38, ↓wX9_passDay_39, ↓wX9_passDay_40, ↓wX9_passDay_42, ↓wX9_passDay_43, ↓wX9_passDay_44, ↓wX9_passDay_45, ↓wX9_passDay_46, ↓wX9_passDay_47, ↓wX9_passDay_48, ↓wX9_passDay_49, ↓wX9_passDay_50, ↓wX9_passDay_51, ↓wX9_passDay_52, ↓wX9_passDay_53, ↓wX9_passDay_56, ↓wX9_passDay_57, ↓wX9_passDay_58, ↓wX9_passDay_61, ↓wX9_passDay_62, ↓wX9_passDay_65, ↓wX9_passDay_67, ↓wX9_passDay_68, ↓wX9_passDay_69, ↓wX9_passDay_70, ↓wX9_passDay_71, ↓wX9_passDay_72, ↓wX9_passDay_73, ↓wX9_passDay_74, ↓wX9_passDay_75, ↓wX9_passDay_76, ↓wX9_passDay_77, ↓wX9_passDay_80, ↓wX9_passDay_81, ↓wX9_passDay_82, ↓wX9_passDay_85, ↓wX9_passDay_88, ↓wX9_passDay_89, ↓wX9_passDay_90, ↓wX9_passDay_91, ↓wX9_passDay_92, ↓wX9_passDay_93, ↓wX9_passDay_94, ↓wX9_passDay_97, ↓wX9_passDay_98, ↓wX9_passDay_99, ↓wX9_passDay_102, ↓wX9_passDay_105, ↓wX9_passDay_108, ↓wX9_passDay_109, ↓wX9_passDay_110, ↓wX9_passDay_111, ↓wX9_passDay_112, ↓wX9_passDay_113, ↓wX9_passDay_114, ↓wX9_passDay_117, ↓wX9_passDay_118, ↓wX9_passDay_121, ↓wX9_passDay_123, ↓wX9_passDay_124, ↓wX9_passDay_125, ↓wX9_passDay_126, ↓wX9_passDay_127, ↓wX9_passDay_128, ↓wX9_passDay_129, ↓wX9_passDay_130, ↓wX9_passDay_133, ↓wX9_passDay_136, ↓wX9_passDay_137, ↓wX9_passDay_138, ↓wX9_passDay_139, ↓wX9_passDay_140, ↓wX9_passDay_141, ↓wX9_passDay_142, ↓wX9_passDay_143, ↓wX9_passDay_144, zQi_def, zQa_def, zQv_def, nI00, nI10, nI11, nI01, true_or, or_true, false_or, or_false, eq_self, true_implies, false_implies, not_true_eq_false, not_false_eq_true, zc9, zc1, zc2, zc3, zc1000, nI_m9, nI_add, pk_mul, ix_nI, vpT, zk_zpi, zn_zpi, zr_zpi, zk_zpa, zn_zpa, zr_zpa, zsz_zpi, zsz_zpa, zi_zpa, zpi_pa, zpa_zpa, true_and, and_true, and_self, zk_MST, zn_MST, zr_MST, zsz_MST, zi_MST, zi_MST0, zpa_MST, zpa_MST0, zup_eq, zup_ne, h1, nI_leI, a1, hle])
    refine ih _ (i + 1) (by omega) ?_ ?_ ?_
    · simp (disch := omega) only [zup_eq, zup_ne]; exact h1
    · simp (disch := omega) only [zup_eq, zup_ne]; exact hG
    · simp (disch := omega) only [zup_eq, zup_ne, zup_zup]; exact hq
theorem GI_of {r r' : Nat → Int32} {n nr nk td : Nat} (h : ∀ k, k < 4 ∨ 337 ≤ k → r' k = r k) (hG : GI r n nr nk td) : GI r' n nr nk td := by
  obtain ⟨h3, h2, h0, hb, hT⟩ := hG
  exact ⟨(h _ (by omega)).trans h3, (h _ (by omega)).trans h2, (h _ (by omega)).trans h0, hb, fun u hu => TWc (fun f hf => h _ (by omega)) (hT u hu)⟩
theorem dT_pl {r : Nat → Int32} {t nr nk : Nat} (hr : nr ≤ 3) (hk : nk ≤ 8) (hT : TW r t nr nk) (hK : KP r nr nk) : KP (dT r t) nr nk := by
  obtain ⟨h1, -, hc, hg, hkd⟩ := hT
  have i1 := ixx_lt h1 (by omega)
  obtain ⟨ii, hii, e1⟩ := h1
  intro k hkk
  unfold dT
  split
  · rename_i h0
    rcases hkd with ⟨-, -, -, h5⟩ | ⟨h0', -⟩
    · have i2 := ixx_lt h5 (by omega)
      simp (disch := omega) only [zup_ne]
      exact hK k hkk
    · exact absurd h0 h0'
  · have key : ∀ {f : Nat → Int32} {q : Nat} {x : Int32}, (f (281 + 7 * k + 1) = -9 ∨ ∃ i, i < nr ∧ f (281 + 7 * k + 1) = nI i) → (x = -9 ∨ ∃ i, i < nr ∧ x = nI i) → (zup f q x (281 + 7 * k + 1) = -9 ∨ ∃ i, i < nr ∧ zup f q x (281 + 7 * k + 1) = nI i) := by
      intro f q x a b
      by_cases e : 281 + 7 * k + 1 = q
      · rw [zup_eq e]; exact b
      · rw [zup_ne e]; exact a
    (repeat' split) <;> first | exact hK k hkk | exact key (hK k hkk) (Or.inr ⟨ii, hii, e1⟩) | exact key (hK k hkk) (Or.inl rfl) | exact key (key (hK k hkk) (Or.inl rfl)) (Or.inr ⟨ii, hii, e1⟩)
theorem KP_of {r r' : Nat → Int32} {nr nk : Nat} (h : ∀ k, k < nk → r' (281 + 7 * k + 1) = r (281 + 7 * k + 1)) (hK : KP r nr nk) : KP r' nr nk := fun k hk => by rw [h k hk]; exact hK k hk
theorem gT_keep {nk nr td : Nat} (d : Nat) : ∀ (r : Nat → Int32) (t n : Nat) (mi tg : Int32), t + d = n → GI r n nr nk td → KP r nr nk → r 1 = nI nr →
    ∃ n', n' ≤ n ∧ GI (gT nk d r t n mi tg).1 n' nr nk td ∧ KP (gT nk d r t n mi tg).1 nr nk ∧ (gT nk d r t n mi tg).1 1 = nI nr := by
  induction d with
  | zero => intro r t n mi tg _ hG hK h1; exact ⟨n, Nat.le_refl n, hG, hK, h1⟩
  | succ d ih =>
    intro r t n mi tg ht hG hK h1
    have hb := hG.2.2.2.1
    have hT := hG.2.2.2.2 t (by omega)
    have h0 := hG.2.2.1
    have i1 := ixx_lt hT.1 (by omega)
    unfold gT
    split
    · exact ih _ _ _ _ _ (by omega) hG hK h1
    · split
      · rw [h0, nI_add]
        exact ih _ _ _ _ _ (by omega) (GI_up (GI_day hG (by omega)) (by omega)) (KP_of (fun k hk => by rw [zup_ne (by omega), zup_ne (by omega)]) hK) (by rw [zup_ne (by omega), zup_ne (by omega)]; exact h1)
      · split
        · have e := fun k hk => dT_at (k := k) hb.2.2.1 hb.2.2.2 hT hk
          have gA : GI (zup (dT r t) 4 (dT r t 4 + nI 1)) n nr nk td := GI_up (GI_dT hG (by omega)) (by omega)
          have gB : GI (rmT (zup (dT r t) 4 (dT r t 4 + nI 1)) t n) (n - 1) nr nk td := GI_rm gA (by omega)
          have gC : KP (rmT (zup (dT r t) 4 (dT r t 4 + nI 1)) t n) nr nk := KP_of (r := dT r t) (fun k hk => by rw [rmT_at (by omega) (by omega), zup_ne (by omega)]) (dT_pl hb.2.2.1 hb.2.2.2 hT hK)
          obtain ⟨n', q1, q2⟩ := ih _ t (n - 1) mi (tg ||| (nI 1 <<< (r (337 + 8 * t + 7) &&& 31))) (by omega) gB gC (by rw [rmT_at (by omega) (by omega), zup_ne (by omega), e _ (by omega)]; exact h1)
          exact ⟨n', by omega, q2⟩
        · have gA : GI (zup r 5 (r 5 + nI 1)) n nr nk td := GI_up hG (by omega)
          have gB : GI (rmT (zup r 5 (r 5 + nI 1)) t n) (n - 1) nr nk td := GI_rm gA (by omega)
          have gC : KP (rmT (zup r 5 (r 5 + nI 1)) t n) nr nk := KP_of (r := r) (fun k hk => by rw [rmT_at (by omega) (by omega), zup_ne (by omega)]) hK
          obtain ⟨n', q1, q2⟩ := ih _ t (n - 1) mi tg (by omega) gB gC (by rw [rmT_at (by omega) (by omega), zup_ne (by omega)]; exact h1)
          exact ⟨n', by omega, q2⟩
theorem c_passDay {E : zE} {Q : Int32 → zH → Prop} {m j n nr nk td : Nat} {h : zH} {F : Nat → Nat → Int32} (hm : MS h m) (hj : 1 ≤ j ∧ j ≤ 3) (hG : GI (F j) n nr nk td) (hK : KP (F j) nr nk) (h1 : F j 1 = nI nr)
    (hq : Q (pD (F j) nr nk n).2.1 (MST h m (zup (zup F j (pD (F j) nr nk n).1) 0 (zup (F 0) 9 (pD (F j) nr nk n).2.2)))) :
    zMi E mX9_passDay [.inr m, .inr (m + j)] (MST h m F) Q := by
  have hb := hG.2.2.2.1
  have mk := hm.1
  obtain ⟨n', hn', hG', hK', h1'⟩ := gT_keep (nk := nk) (nr := nr) (td := td) n (zD nr (F j) 0) 0 n (nI 0) (nI 0) (by omega) (GI_of (fun k hk => zD_at (by omega)) hG) (KP_of (fun k hk => zD_at (by omega)) hK) (by rw [zD_at (by omega)]; exact h1)
  (refine eX9_passDay 200 ?_; simp (disch := omega) only [↓wX9_passDay_0, ↓wX9_passDay_1, ↓wX9_passDay_2, ↓wX9_passDay_5, ↓wX9_passDay_6, ↓wX9_passDay_7, ↓wX9_passDay_8, ↓wX9_passDay_9, ↓wX9_passDay_10, ↓wX9_passDay_11, ↓wX9_passDay_14, ↓wX9_passDay_15, ↓wX9_passDay_18, ↓wX9_passDay_20, ↓wX9_passDay_21, ↓wX9_passDay_22, ↓wX9_passDay_23, ↓wX9_passDay_24, ↓wX9_passDay_25, ↓wX9_passDay_26, ↓wX9_passDay_27, ↓wX9_passDay_30, ↓wX9_passDay_33, ↓wX9_passDay_34, ↓wX9_passDay_35, ↓wX9_passDay_38, ↓wX9_passDay_39, ↓wX9_passDay_40, ↓wX9_passDay_42, ↓wX9_passDay_43, ↓wX9_passDay_44, ↓wX9_passDay_45, ↓wX9_passDay_46, ↓wX9_passDay_47, ↓wX9_passDay_48, ↓wX9_passDay_49, ↓wX9_passDay_50, ↓wX9_passDay_51, ↓wX9_passDay_52, ↓wX9_passDay_53, ↓wX9_passDay_56, ↓wX9_passDay_57, ↓wX9_passDay_58, ↓wX9_passDay_61, ↓wX9_passDay_62, ↓wX9_passDay_65, ↓wX9_passDay_67, ↓wX9_passDay_68, ↓wX9_passDay_69, ↓wX9_passDay_70, ↓wX9_passDay_71, ↓wX9_passDay_72, ↓wX9_passDay_73, ↓wX9_passDay_74, ↓wX9_passDay_75, ↓wX9_passDay_76, ↓wX9_passDay_77, ↓wX9_passDay_80, ↓wX9_passDay_81, ↓wX9_passDay_82, ↓wX9_passDay_85, ↓wX9_passDay_88, ↓wX9_passDay_89, ↓wX9_passDay_90, ↓wX9_passDay_91, ↓wX9_passDay_92, ↓wX9_passDay_93, ↓wX9_passDay_94, ↓wX9_passDay_97, ↓wX9_passDay_98, ↓wX9_passDay_99, ↓wX9_passDay_102, ↓wX9_passDay_105, ↓wX9_passDay_108, ↓wX9_passDay_109, ↓wX9_passDay_110, ↓wX9_passDay_111, ↓wX9_passDay_112, ↓wX9_passDay_113, ↓wX9_passDay_114, ↓wX9_passDay_117, ↓wX9_passDay_118, ↓wX9_passDay_121, ↓wX9_passDay_123, ↓wX9_passDay_124, ↓wX9_passDay_125, ↓wX9_passDay_126, ↓wX9_passDay_127, ↓wX9_passDay_128, ↓wX9_passDay_129, ↓wX9_passDay_130, ↓wX9_passDay_133, ↓wX9_passDay_136, ↓wX9_passDay_137, ↓wX9_passDay_138, ↓wX9_passDay_139, ↓wX9_passDay_140, ↓wX9_passDay_141, ↓wX9_passDay_142, ↓wX9_passDay_143, ↓wX9_passDay_144, zQi_def, zQa_def, zQv_def, nI00, nI10, nI11, nI01, true_or, or_true, false_or, or_false, eq_self, true_implies, false_implies, not_true_eq_false, not_false_eq_true, zc9, zc1, zc2, zc3, zc1000, nI_m9, nI_add, pk_mul, ix_nI, vpT, zk_zpi, zn_zpi, zr_zpi, zk_zpa, zn_zpa, zr_zpa, zsz_zpi, zsz_zpa, zi_zpa, zpi_pa, zpa_zpa, true_and, and_true, and_self, zk_MST, zn_MST, zr_MST, zsz_MST, zi_MST, zi_MST0, zpa_MST, zpa_MST0, zup_eq, zup_ne, mk])
  refine l_pd1 (n := n) (nk := nk) (td := td) hm hj hb.2.2.1 nr _ 0 (by omega) ?_ ?_ ?_
  · simp (disch := omega) only [zup_ne]; exact h1
  · simp (disch := omega) only [zup_ne]; exact GI_of (fun k hk => zD_at (by omega)) hG
  simp (disch := omega) only [zup_eq, zup_ne, zup_zup]
  refine l_pd2 (nk := nk) hm hj hb.2.2.1 hb.2.2.2 nr _ 0 (by omega) ?_ ?_ ?_
  · simp (disch := omega) only [zup_eq, zup_ne]; exact h1'
  · simp (disch := omega) only [zup_eq, zup_ne]; exact hG'.2.1
  refine l_pd3 (nr := nr) (nk := nk) hm hj hb.2.2.1 hb.2.2.2 nk _ 0 (by omega) ?_ ?_ ?_
  · simp (disch := omega) only [zup_eq, zup_ne, eD_at]; exact hG'.2.1
  · simp (disch := omega) only [zup_eq, zup_ne]
    exact KP_of (fun k hk => by rw [eD_at (by omega) (by omega), zup_ne (by omega)]) hK'
  refine l_pd4 hm hj hb.2.2.1 nr _ 0 (by omega) ?_ ?_
  · simp (disch := omega) only [zup_eq, zup_ne]
    rw [rK_at (by omega) (by omega), eD_at (by omega) (by omega), zup_ne (by omega)]
    exact h1'
  · unfold pD at hq
    simp (disch := omega) only [zup_eq, zup_ne]
    refine cast ?_ hq
    congr 2
    funext q
    by_cases hq0 : q = 0
    · simp (disch := omega) only [zup_eq, zup_ne, hq0]
    · by_cases hqj : q = j
      · simp (disch := omega) only [zup_eq, zup_ne, hqj]
      · simp (disch := omega) only [zup_eq, zup_ne, hqj, hq0]
