/-! The class: small methods. -/
theorem inN_lt {x : Int32} {n : Nat} (hn : n < 2147483648) : (inN x n = true) = (¬ x < 0 ∧ ¬ nI n ≤ x) := by
  rw [inN_def, i32lt, i32le, nIn hn, i32_0]; apply propext; omega
theorem inN_zb {x : Int32} {n : Nat} (hn : n < 2147483648) : zb (inN x n = true) = zb (¬ x < 0 ∧ ¬ nI n ≤ x) := zb_iff (iff_of_eq (inN_lt hn))
theorem v_within {E : zE} {Q : Int32 → zH → Prop} {v a b : Int32} {h : zH} (hq : Q (zb (a ≤ v ∧ v ≤ b)) h) : zMi E mX8_within [.inl v, .inl a, .inl b] h Q := by
  (refine eX8_within 200 ?_; simp (disch := omega) only [↓wX8_within_0, ↓wX8_within_1, ↓wX8_within_2, ↓wX8_within_5, ↓wX8_within_6, ↓wX8_within_7, ↓wX8_within_10, ↓wX8_within_11, ↓wX8_within_14, ↓wX8_within_15, zQi_def, zQa_def, zQv_def, nI00, nI10, nI11, nI01, true_or, or_true, false_or, or_false, eq_self, true_implies, false_implies, not_true_eq_false, not_false_eq_true, zc9, zc1, zc2, zc3, zc1000, nI_m9, nI_add, pk_mul, ix_nI, vpT, zk_zpi, zn_zpi, zr_zpi, zk_zpa, zn_zpa, zr_zpa, zsz_zpi, zsz_zpa, zi_zpa, zpi_pa, zpa_zpa, true_and, and_true, and_self])
  unfold zb at hq
  grind
theorem v_isDay {E : zE} {Q : Int32 → zH → Prop} {x : Int32} {h : zH} (hq : Q (zb (inN x 200)) h) : zMi E mX7_isDay [.inl x] h Q := by
  (refine eX7_isDay 200 ?_; simp (disch := omega) only [↓wX7_isDay_0, ↓wX7_isDay_1, ↓wX7_isDay_4, ↓wX7_isDay_5, ↓wX7_isDay_8, ↓wX7_isDay_11, ↓wX7_isDay_12, ↓wX7_isDay_15, ↓wX7_isDay_16, zQi_def, zQa_def, zQv_def, nI00, nI10, nI11, nI01, true_or, or_true, false_or, or_false, eq_self, true_implies, false_implies, not_true_eq_false, not_false_eq_true, zc9, zc1, zc2, zc3, zc1000, nI_m9, nI_add, pk_mul, ix_nI, vpT, zk_zpi, zn_zpi, zr_zpi, zk_zpa, zn_zpa, zr_zpa, zsz_zpi, zsz_zpa, zi_zpa, zpi_pa, zpa_zpa, true_and, and_true, and_self])
  rw [inN_zb (by omega)] at hq
  unfold zb at hq
  grind
theorem v_hasRock {E : zE} {Q : Int32 → zH → Prop} {w nr : Nat} {x : Int32} {h : zH} {G : Nat → Nat → Int32} {p : Nat → Nat} (hw : WS h w) (hn : nr ≤ 3) (g4 : G 0 4 = nI nr) (hq : Q (zb (inN x nr)) (WST h w G p)) : zMi E mX7_hasRock [.inr w, .inl x] (WST h w G p) Q := by
  have wk := hw.1
  (refine eX7_hasRock 200 ?_; simp (disch := omega) only [↓wX7_hasRock_0, ↓wX7_hasRock_1, ↓wX7_hasRock_4, ↓wX7_hasRock_5, ↓wX7_hasRock_6, ↓wX7_hasRock_9, ↓wX7_hasRock_12, ↓wX7_hasRock_13, ↓wX7_hasRock_16, ↓wX7_hasRock_17, zQi_def, zQa_def, zQv_def, nI00, nI10, nI11, nI01, true_or, or_true, false_or, or_false, eq_self, true_implies, false_implies, not_true_eq_false, not_false_eq_true, zc9, zc1, zc2, zc3, zc1000, nI_m9, nI_add, pk_mul, ix_nI, vpT, zk_zpi, zn_zpi, zr_zpi, zk_zpa, zn_zpa, zr_zpa, zsz_zpi, zsz_zpa, zi_zpa, zpi_pa, zpa_zpa, true_and, and_true, and_self, zk_WST, zn_WST, zsz_WST, zi_WST, zi_WST0, zr_WST5, zr_WSTN, zpa_WST, zpa_WST0, zpr_WST5, zup2_eq, zup2_ne, zup_eq, zup_ne, q22, q23, q24, q25, q26, q27, zAk26, wk, g4])
  rw [inN_zb (by omega)] at hq
  clear hw
  unfold zb at hq
  grind
theorem v_hasKeeper {E : zE} {Q : Int32 → zH → Prop} {w nk : Nat} {x : Int32} {h : zH} {G : Nat → Nat → Int32} {p : Nat → Nat} (hw : WS h w) (hn : nk ≤ 8) (g5 : G 0 5 = nI nk) (hq : Q (zb (inN x nk)) (WST h w G p)) : zMi E mX7_hasKeeper [.inr w, .inl x] (WST h w G p) Q := by
  have wk := hw.1
  (refine eX7_hasKeeper 200 ?_; simp (disch := omega) only [↓wX7_hasKeeper_0, ↓wX7_hasKeeper_1, ↓wX7_hasKeeper_4, ↓wX7_hasKeeper_5, ↓wX7_hasKeeper_6, ↓wX7_hasKeeper_9, ↓wX7_hasKeeper_12, ↓wX7_hasKeeper_13, ↓wX7_hasKeeper_16, ↓wX7_hasKeeper_17, zQi_def, zQa_def, zQv_def, nI00, nI10, nI11, nI01, true_or, or_true, false_or, or_false, eq_self, true_implies, false_implies, not_true_eq_false, not_false_eq_true, zc9, zc1, zc2, zc3, zc1000, nI_m9, nI_add, pk_mul, ix_nI, vpT, zk_zpi, zn_zpi, zr_zpi, zk_zpa, zn_zpa, zr_zpa, zsz_zpi, zsz_zpa, zi_zpa, zpi_pa, zpa_zpa, true_and, and_true, and_self, zk_WST, zn_WST, zsz_WST, zi_WST, zi_WST0, zr_WST5, zr_WSTN, zpa_WST, zpa_WST0, zpr_WST5, zup2_eq, zup2_ne, zup_eq, zup_ne, q22, q23, q24, q25, q26, q27, zAk26, wk, g5])
  rw [inN_zb (by omega)] at hq
  clear hw
  unfold zb at hq
  grind
theorem v_hasTurn {E : zE} {Q : Int32 → zH → Prop} {w n : Nat} {x : Int32} {h : zH} {G : Nat → Nat → Int32} {p : Nat → Nat} (hw : WS h w) (hn : n ≤ 12) (g6 : G 0 6 = nI n) (hq : Q (zb (inN x n)) (WST h w G p)) : zMi E mX7_hasTurn [.inr w, .inl x] (WST h w G p) Q := by
  have wk := hw.1
  (refine eX7_hasTurn 200 ?_; simp (disch := omega) only [↓wX7_hasTurn_0, ↓wX7_hasTurn_1, ↓wX7_hasTurn_4, ↓wX7_hasTurn_5, ↓wX7_hasTurn_6, ↓wX7_hasTurn_9, ↓wX7_hasTurn_12, ↓wX7_hasTurn_13, ↓wX7_hasTurn_16, ↓wX7_hasTurn_17, zQi_def, zQa_def, zQv_def, nI00, nI10, nI11, nI01, true_or, or_true, false_or, or_false, eq_self, true_implies, false_implies, not_true_eq_false, not_false_eq_true, zc9, zc1, zc2, zc3, zc1000, nI_m9, nI_add, pk_mul, ix_nI, vpT, zk_zpi, zn_zpi, zr_zpi, zk_zpa, zn_zpa, zr_zpa, zsz_zpi, zsz_zpa, zi_zpa, zpi_pa, zpa_zpa, true_and, and_true, and_self, zk_WST, zn_WST, zsz_WST, zi_WST, zi_WST0, zr_WST5, zr_WSTN, zpa_WST, zpa_WST0, zpr_WST5, zup2_eq, zup2_ne, zup_eq, zup_ne, q22, q23, q24, q25, q26, q27, zAk26, wk, g6])
  rw [inN_zb (by omega)] at hq
  clear hw
  unfold zb at hq
  grind
theorem v_hasStore {E : zE} {Q : Int32 → zH → Prop} {w nr : Nat} {x y : Int32} {h : zH} {G : Nat → Nat → Int32} {p : Nat → Nat} (hw : WS h w) (hn : nr ≤ 3) (g4 : G 0 4 = nI nr) (hq : Q (zb (inN x nr ∧ inN y 3)) (WST h w G p)) : zMi E mX7_hasStore [.inr w, .inl x, .inl y] (WST h w G p) Q := by
  have wk := hw.1
  (refine eX7_hasStore 200 ?_; simp (disch := omega) only [↓wX7_hasStore_0, ↓wX7_hasStore_1, ↓wX7_hasStore_2, ↓wX7_hasStore_5, ↓wX7_hasStore_8, ↓wX7_hasStore_9, ↓wX7_hasStore_12, ↓wX7_hasStore_13, ↓wX7_hasStore_14, ↓wX7_hasStore_17, ↓wX7_hasStore_18, ↓wX7_hasStore_21, ↓wX7_hasStore_22, zQi_def, zQa_def, zQv_def, nI00, nI10, nI11, nI01, true_or, or_true, false_or, or_false, eq_self, true_implies, false_implies, not_true_eq_false, not_false_eq_true, zc9, zc1, zc2, zc3, zc1000, nI_m9, nI_add, pk_mul, ix_nI, vpT, zk_zpi, zn_zpi, zr_zpi, zk_zpa, zn_zpa, zr_zpa, zsz_zpi, zsz_zpa, zi_zpa, zpi_pa, zpa_zpa, true_and, and_true, and_self, zk_WST, zn_WST, zsz_WST, zi_WST, zi_WST0, zr_WST5, zr_WSTN, zpa_WST, zpa_WST0, zpr_WST5, zup2_eq, zup2_ne, zup_eq, zup_ne, q22, q23, q24, q25, q26, q27, zAk26, wk])
  refine v_hasRock hw hn g4 ?_
  simp only [↓wX7_hasStore_0, ↓wX7_hasStore_1, ↓wX7_hasStore_2, ↓wX7_hasStore_5, ↓wX7_hasStore_8, ↓wX7_hasStore_9, ↓wX7_hasStore_12, ↓wX7_hasStore_13, ↓wX7_hasStore_14, ↓wX7_hasStore_17, ↓wX7_hasStore_18, ↓wX7_hasStore_21, ↓wX7_hasStore_22, zQi_def, zb_eq0]
  rw [show zb (inN x nr = true ∧ inN y 3 = true) = zb (inN x nr = true ∧ (¬ y < 0 ∧ ¬ nI 3 ≤ y)) from zb_iff (and_congr_right fun _ => iff_of_eq (inN_lt (by omega)))] at hq
  clear hw
  unfold zb at hq
  grind
theorem v_start2 {E : zE} {Q : zH → Prop} {a : Nat} {x y z : Int32} {h : zH} (hk : zk h a = 3) (hq : Q (zpa h a (zup (zup (zup (zi h a) 0 x) 1 y) 2 z))) : zMv E mX2_start [.inr a, .inl x, .inl y, .inl z] h Q := by
  (refine eX2_start 200 ?_; simp (disch := omega) only [↓wX2_start_0, ↓wX2_start_1, ↓wX2_start_2, ↓wX2_start_5, ↓wX2_start_6, ↓wX2_start_7, ↓wX2_start_10, ↓wX2_start_11, ↓wX2_start_12, ↓wX2_start_15, zQi_def, zQa_def, zQv_def, nI00, nI10, nI11, nI01, true_or, or_true, false_or, or_false, eq_self, true_implies, false_implies, not_true_eq_false, not_false_eq_true, zc9, zc1, zc2, zc3, zc1000, nI_m9, nI_add, pk_mul, ix_nI, vpT, zk_zpi, zn_zpi, zr_zpi, zk_zpa, zn_zpa, zr_zpa, zsz_zpi, zsz_zpa, zi_zpa, zpi_pa, zpa_zpa, true_and, and_true, and_self, hk])
  exact hq
theorem v_start6 {E : zE} {Q : zH → Prop} {a : Nat} {x y z : Int32} {h : zH} (hk : zk h a = 7) (hq : Q (zpa h a (zup (zup (zup (zup (zup (zup (zup (zup (zi h a) 0 x) 1 y) 2 z) 3 (-9)) 4 (-9)) 5 (-9)) 6 (-9)) 7 (-9)))) : zMv E mX6_start [.inr a, .inl x, .inl y, .inl z] h Q := by
  (refine eX6_start 200 ?_; simp (disch := omega) only [↓wX6_start_0, ↓wX6_start_1, ↓wX6_start_2, ↓wX6_start_5, ↓wX6_start_6, ↓wX6_start_7, ↓wX6_start_10, ↓wX6_start_11, ↓wX6_start_12, ↓wX6_start_15, ↓wX6_start_16, ↓wX6_start_18, ↓wX6_start_21, ↓wX6_start_22, ↓wX6_start_24, ↓wX6_start_27, ↓wX6_start_28, ↓wX6_start_30, ↓wX6_start_33, ↓wX6_start_34, ↓wX6_start_36, ↓wX6_start_39, ↓wX6_start_40, ↓wX6_start_42, ↓wX6_start_45, zQi_def, zQa_def, zQv_def, nI00, nI10, nI11, nI01, true_or, or_true, false_or, or_false, eq_self, true_implies, false_implies, not_true_eq_false, not_false_eq_true, zc9, zc1, zc2, zc3, zc1000, nI_m9, nI_add, pk_mul, ix_nI, vpT, zk_zpi, zn_zpi, zr_zpi, zk_zpa, zn_zpa, zr_zpa, zsz_zpi, zsz_zpa, zi_zpa, zpi_pa, zpa_zpa, true_and, and_true, and_self, hk])
  exact hq
def ovr (n : Nat) (f g : Nat → Int32) : Nat → Int32 := fun k => if k < n then f k else g k
theorem ovr_lt {n k : Nat} {f g : Nat → Int32} (h : k < n) : ovr n f g k = f k := if_pos h
theorem ovr_ge {n k : Nat} {f g : Nat → Int32} (h : n ≤ k) : ovr n f g k = g k := if_neg (by omega)
theorem ovr_0 (f g : Nat → Int32) : ovr 0 f g = g := funext fun k => if_neg (by omega)
theorem ovr_s (n : Nat) (f g : Nat → Int32) : zup (ovr n f g) n (f n) = ovr (n + 1) f g := by
  funext k
  by_cases h : k = n
  · rw [zup_eq h, ovr_lt (by omega), h]
  · rw [zup_ne h]
    by_cases h2 : k < n
    · rw [ovr_lt h2, ovr_lt (by omega)]
    · rw [ovr_ge (by omega), ovr_ge (by omega)]
theorem ovr5 (f g : Nat → Int32) : zup (zup (zup (zup (zup g 0 (f 0)) 1 (f 1)) 2 (f 2)) 3 (f 3)) 4 (f 4) = ovr 5 f g := by
  rw [← ovr_s, ← ovr_s, ← ovr_s, ← ovr_s, ← ovr_s, ovr_0]
theorem ovr7 (f g : Nat → Int32) : zup (zup (zup (zup (zup (zup (zup g 0 (f 0)) 1 (f 1)) 2 (f 2)) 3 (f 3)) 4 (f 4)) 5 (f 5)) 6 (f 6) = ovr 7 f g := by
  rw [← ovr_s 6, ← ovr_s 5, ← ovr5]
theorem ovr8 (f g : Nat → Int32) : zup (zup (zup (zup (zup (zup (zup (zup g 0 (f 0)) 1 (f 1)) 2 (f 2)) 3 (f 3)) 4 (f 4)) 5 (f 5)) 6 (f 6)) 7 (f 7) = ovr 8 f g := by
  rw [← ovr_s 7, ← ovr7]
theorem v_copy1 {E : zE} {Q : zH → Prop} {a b : Nat} {h : zH} (hk : zk h a = 2) (hk2 : zk h b = 2) (hab : b ≠ a) (hq : Q (zpa h a (ovr 7 (zi h b) (zi h a)))) : zMv E mX1_copyFrom [.inr a, .inr b] h Q := by
  (refine eX1_copyFrom 200 ?_; simp (disch := omega) only [↓wX1_copyFrom_0, ↓wX1_copyFrom_1, ↓wX1_copyFrom_2, ↓wX1_copyFrom_5, ↓wX1_copyFrom_8, ↓wX1_copyFrom_9, ↓wX1_copyFrom_10, ↓wX1_copyFrom_13, ↓wX1_copyFrom_16, ↓wX1_copyFrom_17, ↓wX1_copyFrom_18, ↓wX1_copyFrom_21, ↓wX1_copyFrom_24, ↓wX1_copyFrom_25, ↓wX1_copyFrom_26, ↓wX1_copyFrom_29, ↓wX1_copyFrom_32, ↓wX1_copyFrom_33, ↓wX1_copyFrom_34, ↓wX1_copyFrom_37, ↓wX1_copyFrom_40, ↓wX1_copyFrom_41, ↓wX1_copyFrom_42, ↓wX1_copyFrom_45, ↓wX1_copyFrom_48, ↓wX1_copyFrom_49, ↓wX1_copyFrom_50, ↓wX1_copyFrom_53, ↓wX1_copyFrom_56, zQi_def, zQa_def, zQv_def, nI00, nI10, nI11, nI01, true_or, or_true, false_or, or_false, eq_self, true_implies, false_implies, not_true_eq_false, not_false_eq_true, zc9, zc1, zc2, zc3, zc1000, nI_m9, nI_add, pk_mul, ix_nI, vpT, zk_zpi, zn_zpi, zr_zpi, zk_zpa, zn_zpa, zr_zpa, zsz_zpi, zsz_zpa, zi_zpa, zpi_pa, zpa_zpa, true_and, and_true, and_self, hk, hk2, zi_zpaN, ovr7])
  exact hq
theorem v_copy4 {E : zE} {Q : zH → Prop} {a b : Nat} {h : zH} (hk : zk h a = 5) (hk2 : zk h b = 5) (hab : b ≠ a) (hq : Q (zpa h a (ovr 5 (zi h b) (zi h a)))) : zMv E mX4_copyFrom [.inr a, .inr b] h Q := by
  (refine eX4_copyFrom 200 ?_; simp (disch := omega) only [↓wX4_copyFrom_0, ↓wX4_copyFrom_1, ↓wX4_copyFrom_2, ↓wX4_copyFrom_5, ↓wX4_copyFrom_8, ↓wX4_copyFrom_9, ↓wX4_copyFrom_10, ↓wX4_copyFrom_13, ↓wX4_copyFrom_16, ↓wX4_copyFrom_17, ↓wX4_copyFrom_18, ↓wX4_copyFrom_21, ↓wX4_copyFrom_24, ↓wX4_copyFrom_25, ↓wX4_copyFrom_26, ↓wX4_copyFrom_29, ↓wX4_copyFrom_32, ↓wX4_copyFrom_33, ↓wX4_copyFrom_34, ↓wX4_copyFrom_37, ↓wX4_copyFrom_40, zQi_def, zQa_def, zQv_def, nI00, nI10, nI11, nI01, true_or, or_true, false_or, or_false, eq_self, true_implies, false_implies, not_true_eq_false, not_false_eq_true, zc9, zc1, zc2, zc3, zc1000, nI_m9, nI_add, pk_mul, ix_nI, vpT, zk_zpi, zn_zpi, zr_zpi, zk_zpa, zn_zpa, zr_zpa, zsz_zpi, zsz_zpa, zi_zpa, zpi_pa, zpa_zpa, true_and, and_true, and_self, hk, hk2, zi_zpaN, ovr5])
  exact hq
theorem v_copy6 {E : zE} {Q : zH → Prop} {a b : Nat} {h : zH} (hk : zk h a = 7) (hk2 : zk h b = 7) (hab : b ≠ a) (hq : Q (zpa h a (ovr 8 (zi h b) (zi h a)))) : zMv E mX6_copyFrom [.inr a, .inr b] h Q := by
  (refine eX6_copyFrom 200 ?_; simp (disch := omega) only [↓wX6_copyFrom_0, ↓wX6_copyFrom_1, ↓wX6_copyFrom_2, ↓wX6_copyFrom_5, ↓wX6_copyFrom_8, ↓wX6_copyFrom_9, ↓wX6_copyFrom_10, ↓wX6_copyFrom_13, ↓wX6_copyFrom_16, ↓wX6_copyFrom_17, ↓wX6_copyFrom_18, ↓wX6_copyFrom_21, ↓wX6_copyFrom_24, ↓wX6_copyFrom_25, ↓wX6_copyFrom_26, ↓wX6_copyFrom_29, ↓wX6_copyFrom_32, ↓wX6_copyFrom_33, ↓wX6_copyFrom_34, ↓wX6_copyFrom_37, ↓wX6_copyFrom_40, ↓wX6_copyFrom_41, ↓wX6_copyFrom_42, ↓wX6_copyFrom_45, ↓wX6_copyFrom_48, ↓wX6_copyFrom_49, ↓wX6_copyFrom_50, ↓wX6_copyFrom_53, ↓wX6_copyFrom_56, ↓wX6_copyFrom_57, ↓wX6_copyFrom_58, ↓wX6_copyFrom_61, ↓wX6_copyFrom_64, zQi_def, zQa_def, zQv_def, nI00, nI10, nI11, nI01, true_or, or_true, false_or, or_false, eq_self, true_implies, false_implies, not_true_eq_false, not_false_eq_true, zc9, zc1, zc2, zc3, zc1000, nI_m9, nI_add, pk_mul, ix_nI, vpT, zk_zpi, zn_zpi, zr_zpi, zk_zpa, zn_zpa, zr_zpa, zsz_zpi, zsz_zpa, zi_zpa, zpi_pa, zpa_zpa, true_and, and_true, and_self, hk, hk2, zi_zpaN, ovr8])
  exact hq
theorem v_double {E : zE} {Q : zH → Prop} {a : Nat} {x : Int32} {h : zH} (hk : zk h a = 3) (hq1 : zi h a 4 = x → Q h) (hq2 : zi h a 4 ≠ x → Q (zpa h a (zup (zup (zi h a) 4 x) 3 (zi h a 3 + nI 1)))) : zMv E mX2_doubleDay [.inr a, .inl x] h Q := by
  (refine eX2_doubleDay 200 ?_; simp (disch := omega) only [↓wX2_doubleDay_0, ↓wX2_doubleDay_1, ↓wX2_doubleDay_4, ↓wX2_doubleDay_5, ↓wX2_doubleDay_8, ↓wX2_doubleDay_9, ↓wX2_doubleDay_10, ↓wX2_doubleDay_13, ↓wX2_doubleDay_14, ↓wX2_doubleDay_15, ↓wX2_doubleDay_18, ↓wX2_doubleDay_19, ↓wX2_doubleDay_20, ↓wX2_doubleDay_23, zQi_def, zQa_def, zQv_def, nI00, nI10, nI11, nI01, true_or, or_true, false_or, or_false, eq_self, true_implies, false_implies, not_true_eq_false, not_false_eq_true, zc9, zc1, zc2, zc3, zc1000, nI_m9, nI_add, pk_mul, ix_nI, vpT, zk_zpi, zn_zpi, zr_zpi, zk_zpa, zn_zpa, zr_zpa, zsz_zpi, zsz_zpa, zi_zpa, zpi_pa, zpa_zpa, true_and, and_true, and_self, hk, zup_eq, zup_ne])
  exact ⟨fun e => hq1 e, fun e => hq2 e⟩
theorem v_need {E : zE} {Q : Int32 → zH → Prop} {s k : Nat} {h : zH} (hs : s < 3) (hk : k ≤ 8) (hq : Q (nd k s) h) : zMi E mX4_need [.inl (nI s), .inl (nI k)] h Q := by
  (refine eX4_need 200 ?_; simp (disch := omega) only [↓wX4_need_0, ↓wX4_need_1, ↓wX4_need_2, ↓wX4_need_5, ↓wX4_need_6, ↓wX4_need_9, ↓wX4_need_10, ↓wX4_need_13, ↓wX4_need_14, ↓wX4_need_15, ↓wX4_need_16, ↓wX4_need_19, ↓wX4_need_20, ↓wX4_need_21, ↓wX4_need_22, ↓wX4_need_25, ↓wX4_need_26, ↓wX4_need_27, ↓wX4_need_28, zQi_def, zQa_def, zQv_def, nI00, nI10, nI11, nI01, true_or, or_true, false_or, or_false, eq_self, true_implies, false_implies, not_true_eq_false, not_false_eq_true, zc9, zc1, zc2, zc3, zc1000, nI_m9, nI_add, pk_mul, ix_nI, vpT, zk_zpi, zn_zpi, zr_zpi, zk_zpa, zn_zpa, zr_zpa, zsz_zpi, zsz_zpa, zi_zpa, zpi_pa, zpa_zpa, true_and, and_true, and_self, nI_eq, nI_leI])
  unfold nd at hq
  have e0 : (0 : Int32) = nI 0 := rfl
  rw [e0]
  simp (disch := omega) only [nI_eq, nI_leI, pk_mul]
  grind
theorem lss_def (x y : Int32) : (if x < y then x else y) = lss x y := rfl
theorem zmin_lss (x y : Int32) : zmin x y = lss x y := by
  unfold zmin lss
  by_cases h1 : x < y
  · rw [if_pos h1, if_neg (fun h => Int32.not_lt.mpr (Int32.le_of_lt h1) h)]
  · rw [if_neg h1]
    by_cases h2 : y < x
    · rw [if_pos h2]
    · rw [if_neg h2]
      exact Int32.le_antisymm (Int32.not_lt.mp h2) (Int32.not_lt.mp h1)
theorem v_receive {E : zE} {Q : zH → Prop} {a : Nat} {x : Int32} {h : zH} (hk : zk h a = 5) (hq : Q (zpa h a (zup (zup (zi h a) 0 (zi h a 0 + lss x (nI 999 - zi h a 0))) 4 (zi h a 4 + lss x (nI 999 - zi h a 0))))) : zMv E mX4_receive [.inr a, .inl x] h Q := by
  (refine eX4_receive 200 ?_; simp (disch := omega) only [↓wX4_receive_0, ↓wX4_receive_1, ↓wX4_receive_4, ↓wX4_receive_5, ↓wX4_receive_8, ↓wX4_receive_9, ↓wX4_receive_12, ↓wX4_receive_13, ↓wX4_receive_14, ↓wX4_receive_15, ↓wX4_receive_18, ↓wX4_receive_19, ↓wX4_receive_20, ↓wX4_receive_23, ↓wX4_receive_24, ↓wX4_receive_25, ↓wX4_receive_28, ↓wX4_receive_29, ↓wX4_receive_30, ↓wX4_receive_33, zQi_def, zQa_def, zQv_def, nI00, nI10, nI11, nI01, true_or, or_true, false_or, or_false, eq_self, true_implies, false_implies, not_true_eq_false, not_false_eq_true, zc9, zc1, zc2, zc3, zc1000, nI_m9, nI_add, pk_mul, ix_nI, vpT, zk_zpi, zn_zpi, zr_zpi, zk_zpa, zn_zpa, zr_zpa, zsz_zpi, zsz_zpa, zi_zpa, zpi_pa, zpa_zpa, true_and, and_true, and_self, hk, zup_eq, zup_ne, zmin_lss])
  exact hq
theorem v_feed {E : zE} {Q : zH → Prop} {a : Nat} {x : Int32} {h : zH} (hk : zk h a = 5) (hq : Q (zpa h a (zup (zup (zup (zi h a) 0 (zi h a 0 - lss x (zi h a 0 - zi h a 1))) 2 (zi h a 2 + lss x (zi h a 0 - zi h a 1))) 3 (zi h a 3 + (x - lss x (zi h a 0 - zi h a 1)))))) : zMv E mX4_feed [.inr a, .inl x] h Q := by
  (refine eX4_feed 200 ?_; simp (disch := omega) only [↓wX4_feed_0, ↓wX4_feed_1, ↓wX4_feed_2, ↓wX4_feed_5, ↓wX4_feed_6, ↓wX4_feed_9, ↓wX4_feed_10, ↓wX4_feed_13, ↓wX4_feed_14, ↓wX4_feed_15, ↓wX4_feed_16, ↓wX4_feed_19, ↓wX4_feed_20, ↓wX4_feed_21, ↓wX4_feed_24, ↓wX4_feed_25, ↓wX4_feed_26, ↓wX4_feed_29, ↓wX4_feed_30, ↓wX4_feed_31, ↓wX4_feed_34, ↓wX4_feed_35, ↓wX4_feed_36, ↓wX4_feed_39, ↓wX4_feed_40, ↓wX4_feed_41, ↓wX4_feed_42, ↓wX4_feed_43, ↓wX4_feed_46, zQi_def, zQa_def, zQv_def, nI00, nI10, nI11, nI01, true_or, or_true, false_or, or_false, eq_self, true_implies, false_implies, not_true_eq_false, not_false_eq_true, zc9, zc1, zc2, zc3, zc1000, nI_m9, nI_add, pk_mul, ix_nI, vpT, zk_zpi, zn_zpi, zr_zpi, zk_zpa, zn_zpa, zr_zpa, zsz_zpi, zsz_zpa, zi_zpa, zpi_pa, zpa_zpa, true_and, and_true, and_self, hk, zup_eq, zup_ne, zmin_lss])
  exact hq
def unt (k : Nat) : Nat := if k = 1 then 2 else if k = 2 then 3 else 0
theorem v_units {E : zE} {Q : Int32 → zH → Prop} {k : Nat} {h : zH} (hk : k < 3) (hq : Q (nI (unt k)) h) : zMi E mX1_unitsOfADay [.inl (nI k)] h Q := by
  rcases (show k = 0 ∨ k = 1 ∨ k = 2 by omega) with rfl | rfl | rfl <;> (refine eX1_unitsOfADay 200 ?_; simp (disch := omega) only [↓wX1_unitsOfADay_0, ↓wX1_unitsOfADay_1, ↓wX1_unitsOfADay_28, ↓wX1_unitsOfADay_29, ↓wX1_unitsOfADay_30, ↓wX1_unitsOfADay_31, ↓wX1_unitsOfADay_32, ↓wX1_unitsOfADay_33, zQi_def, zQa_def, zQv_def, nI00, nI10, nI11, nI01, true_or, or_true, false_or, or_false, eq_self, true_implies, false_implies, not_true_eq_false, not_false_eq_true, zc9, zc1, zc2, zc3, zc1000, nI_m9, nI_add, pk_mul, ix_nI, vpT, zk_zpi, zn_zpi, zr_zpi, zk_zpa, zn_zpa, zr_zpa, zsz_zpi, zsz_zpa, zi_zpa, zpi_pa, zpa_zpa, true_and, and_true, and_self, nIn]; unfold unt at hq; (repeat' (first | apply And.intro | (intro _))) <;> first | exact hq | (exfalso; omega) | trivial)
theorem v_dayOut {E : zE} {Q : zH → Prop} {a k : Nat} {h : zH} (hk : zk h a = 2) (hr : zi h a 0 = nI k) (hk3 : k < 3) (b : Bool) (hq : Q (zpa h a (zup (zup (zup (zi h a) 3 (zi h a 3 + nI 1)) 4 (zi h a 4 + (if b then nI 1 else nI 0))) 2 (zi h a 2 + nI (unt k) * (nI 1 + (if b then nI 1 else nI 0)))))) : zMv E mX1_spendDayOut [.inr a, .inl (if b then nI 1 else nI 0)] h Q := by
  cases b
  · (refine eX1_spendDayOut 200 ?_; simp (disch := omega) only [↓wX1_spendDayOut_0, ↓wX1_spendDayOut_1, ↓wX1_spendDayOut_4, ↓wX1_spendDayOut_7, ↓wX1_spendDayOut_8, ↓wX1_spendDayOut_9, ↓wX1_spendDayOut_10, ↓wX1_spendDayOut_13, ↓wX1_spendDayOut_14, ↓wX1_spendDayOut_15, ↓wX1_spendDayOut_18, ↓wX1_spendDayOut_19, ↓wX1_spendDayOut_20, ↓wX1_spendDayOut_23, ↓wX1_spendDayOut_24, ↓wX1_spendDayOut_25, ↓wX1_spendDayOut_28, ↓wX1_spendDayOut_29, ↓wX1_spendDayOut_32, ↓wX1_spendDayOut_33, ↓wX1_spendDayOut_34, ↓wX1_spendDayOut_37, ↓wX1_spendDayOut_38, ↓wX1_spendDayOut_39, ↓wX1_spendDayOut_42, ↓wX1_spendDayOut_43, ↓wX1_spendDayOut_44, ↓wX1_spendDayOut_47, ↓wX1_spendDayOut_48, ↓wX1_spendDayOut_49, ↓wX1_spendDayOut_52, zQi_def, zQa_def, zQv_def, nI00, nI10, nI11, nI01, true_or, or_true, false_or, or_false, eq_self, true_implies, false_implies, not_true_eq_false, not_false_eq_true, zc9, zc1, zc2, zc3, zc1000, nI_m9, nI_add, pk_mul, ix_nI, vpT, zk_zpi, zn_zpi, zr_zpi, zk_zpa, zn_zpa, zr_zpa, zsz_zpi, zsz_zpa, zi_zpa, zpi_pa, zpa_zpa, true_and, and_true, and_self, hk, hr, zup_eq, zup_ne, Bool.false_eq_true, if_false])
    refine v_units hk3 ?_
    simp (disch := omega) only [↓wX1_spendDayOut_0, ↓wX1_spendDayOut_1, ↓wX1_spendDayOut_4, ↓wX1_spendDayOut_7, ↓wX1_spendDayOut_8, ↓wX1_spendDayOut_9, ↓wX1_spendDayOut_10, ↓wX1_spendDayOut_13, ↓wX1_spendDayOut_14, ↓wX1_spendDayOut_15, ↓wX1_spendDayOut_18, ↓wX1_spendDayOut_19, ↓wX1_spendDayOut_20, ↓wX1_spendDayOut_23, ↓wX1_spendDayOut_24, ↓wX1_spendDayOut_25, ↓wX1_spendDayOut_28, ↓wX1_spendDayOut_29, ↓wX1_spendDayOut_32, ↓wX1_spendDayOut_33, ↓wX1_spendDayOut_34, ↓wX1_spendDayOut_37, ↓wX1_spendDayOut_38, ↓wX1_spendDayOut_39, ↓wX1_spendDayOut_42, ↓wX1_spendDayOut_43, ↓wX1_spendDayOut_44, ↓wX1_spendDayOut_47, ↓wX1_spendDayOut_48, ↓wX1_spendDayOut_49, ↓wX1_spendDayOut_52, zQi_def, zQa_def, zQv_def, nI00, nI10, nI11, nI01, true_or, or_true, false_or, or_false, eq_self, true_implies, false_implies, not_true_eq_false, not_false_eq_true, zc9, zc1, zc2, zc3, zc1000, nI_m9, nI_add, pk_mul, ix_nI, vpT, zk_zpi, zn_zpi, zr_zpi, zk_zpa, zn_zpa, zr_zpa, zsz_zpi, zsz_zpa, zi_zpa, zpi_pa, zpa_zpa, true_and, and_true, and_self, hk, hr, zup_eq, zup_ne]
    simp only [Bool.false_eq_true, if_false] at hq
    refine cast (congrArg Q ?_) hq
    congr 1
    funext q
    have e : zi h a 4 + nI 0 = zi h a 4 := Int32.add_zero _
    have e2 : nI (unt k) * (nI 1 + nI 0) = nI (unt k) := by rw [show nI 1 + nI 0 = 1 from rfl, Int32.mul_one]
    rw [e, e2]
    unfold zup
    grind
  · (refine eX1_spendDayOut 200 ?_; simp (disch := omega) only [↓wX1_spendDayOut_0, ↓wX1_spendDayOut_1, ↓wX1_spendDayOut_4, ↓wX1_spendDayOut_7, ↓wX1_spendDayOut_8, ↓wX1_spendDayOut_9, ↓wX1_spendDayOut_10, ↓wX1_spendDayOut_13, ↓wX1_spendDayOut_14, ↓wX1_spendDayOut_15, ↓wX1_spendDayOut_18, ↓wX1_spendDayOut_19, ↓wX1_spendDayOut_20, ↓wX1_spendDayOut_23, ↓wX1_spendDayOut_24, ↓wX1_spendDayOut_25, ↓wX1_spendDayOut_28, ↓wX1_spendDayOut_29, ↓wX1_spendDayOut_32, ↓wX1_spendDayOut_33, ↓wX1_spendDayOut_34, ↓wX1_spendDayOut_37, ↓wX1_spendDayOut_38, ↓wX1_spendDayOut_39, ↓wX1_spendDayOut_42, ↓wX1_spendDayOut_43, ↓wX1_spendDayOut_44, ↓wX1_spendDayOut_47, ↓wX1_spendDayOut_48, ↓wX1_spendDayOut_49, ↓wX1_spendDayOut_52, zQi_def, zQa_def, zQv_def, nI00, nI10, nI11, nI01, true_or, or_true, false_or, or_false, eq_self, true_implies, false_implies, not_true_eq_false, not_false_eq_true, zc9, zc1, zc2, zc3, zc1000, nI_m9, nI_add, pk_mul, ix_nI, vpT, zk_zpi, zn_zpi, zr_zpi, zk_zpa, zn_zpa, zr_zpa, zsz_zpi, zsz_zpa, zi_zpa, zpi_pa, zpa_zpa, true_and, and_true, and_self, hk, hr, zup_eq, zup_ne, if_true])
    refine v_units hk3 ?_
    simp (disch := omega) only [↓wX1_spendDayOut_0, ↓wX1_spendDayOut_1, ↓wX1_spendDayOut_4, ↓wX1_spendDayOut_7, ↓wX1_spendDayOut_8, ↓wX1_spendDayOut_9, ↓wX1_spendDayOut_10, ↓wX1_spendDayOut_13, ↓wX1_spendDayOut_14, ↓wX1_spendDayOut_15, ↓wX1_spendDayOut_18, ↓wX1_spendDayOut_19, ↓wX1_spendDayOut_20, ↓wX1_spendDayOut_23, ↓wX1_spendDayOut_24, ↓wX1_spendDayOut_25, ↓wX1_spendDayOut_28, ↓wX1_spendDayOut_29, ↓wX1_spendDayOut_32, ↓wX1_spendDayOut_33, ↓wX1_spendDayOut_34, ↓wX1_spendDayOut_37, ↓wX1_spendDayOut_38, ↓wX1_spendDayOut_39, ↓wX1_spendDayOut_42, ↓wX1_spendDayOut_43, ↓wX1_spendDayOut_44, ↓wX1_spendDayOut_47, ↓wX1_spendDayOut_48, ↓wX1_spendDayOut_49, ↓wX1_spendDayOut_52, zQi_def, zQa_def, zQv_def, nI00, nI10, nI11, nI01, true_or, or_true, false_or, or_false, eq_self, true_implies, false_implies, not_true_eq_false, not_false_eq_true, zc9, zc1, zc2, zc3, zc1000, nI_m9, nI_add, pk_mul, ix_nI, vpT, zk_zpi, zn_zpi, zr_zpi, zk_zpa, zn_zpa, zr_zpa, zsz_zpi, zsz_zpa, zi_zpa, zpi_pa, zpa_zpa, true_and, and_true, and_self, hk, hr, zup_eq, zup_ne]
    simp only [if_true] at hq
    refine cast (congrArg Q ?_) hq
    congr 1
    funext q
    have e2 : zi h a 2 + nI (unt k) * (nI 1 + nI 1) = zi h a 2 + nI (unt k) + nI (unt k) := by rw [show nI 1 = 1 from rfl, Int32.mul_add, Int32.mul_one, Int32.add_assoc]
    rw [e2]
    unfold zup
    grind
theorem v_dayAsh {E : zE} {Q : zH → Prop} {a : Nat} {h : zH} (hk : zk h a = 2) (hq1 : nI 4 ≤ zi h a 2 → Q (zpa h a (zup (zup (zi h a) 2 (zi h a 2 - nI 4)) 5 (zi h a 5 + nI 1)))) (hq2 : ¬ nI 4 ≤ zi h a 2 → Q (zpa h a (zup (zi h a) 6 (zi h a 6 + nI 1)))) : zMv E mX1_spendDayAshore [.inr a] h Q := by
  (refine eX1_spendDayAshore 200 ?_; simp (disch := omega) only [↓wX1_spendDayAshore_0, ↓wX1_spendDayAshore_1, ↓wX1_spendDayAshore_4, ↓wX1_spendDayAshore_5, ↓wX1_spendDayAshore_8, ↓wX1_spendDayAshore_9, ↓wX1_spendDayAshore_10, ↓wX1_spendDayAshore_13, ↓wX1_spendDayAshore_14, ↓wX1_spendDayAshore_15, ↓wX1_spendDayAshore_18, ↓wX1_spendDayAshore_19, ↓wX1_spendDayAshore_20, ↓wX1_spendDayAshore_23, ↓wX1_spendDayAshore_24, ↓wX1_spendDayAshore_25, ↓wX1_spendDayAshore_28, ↓wX1_spendDayAshore_31, ↓wX1_spendDayAshore_32, ↓wX1_spendDayAshore_33, ↓wX1_spendDayAshore_36, ↓wX1_spendDayAshore_37, ↓wX1_spendDayAshore_38, ↓wX1_spendDayAshore_41, zQi_def, zQa_def, zQv_def, nI00, nI10, nI11, nI01, true_or, or_true, false_or, or_false, eq_self, true_implies, false_implies, not_true_eq_false, not_false_eq_true, zc9, zc1, zc2, zc3, zc1000, nI_m9, nI_add, pk_mul, ix_nI, vpT, zk_zpi, zn_zpi, zr_zpi, zk_zpa, zn_zpa, zr_zpa, zsz_zpi, zsz_zpa, zi_zpa, zpi_pa, zpa_zpa, true_and, and_true, and_self, hk, zup_eq, zup_ne])
  clear hk
  grind
theorem v_goesOut {E : zE} {Q : Int32 → zH → Prop} {a b : Nat} {h : zH} (hk : zk h a = 2) (hk2 : zk h b = 2) (hq : Q (zb (zi h a 3 < zi h b 3 ∨ (zi h a 3 = zi h b 3 ∧ zi h b 0 < zi h a 0))) h) : zMi E mX1_goesOutBefore [.inr a, .inr b] h Q := by
  (refine eX1_goesOutBefore 200 ?_; simp (disch := omega) only [↓wX1_goesOutBefore_0, ↓wX1_goesOutBefore_1, ↓wX1_goesOutBefore_4, ↓wX1_goesOutBefore_5, ↓wX1_goesOutBefore_8, ↓wX1_goesOutBefore_11, ↓wX1_goesOutBefore_12, ↓wX1_goesOutBefore_15, ↓wX1_goesOutBefore_16, ↓wX1_goesOutBefore_19, ↓wX1_goesOutBefore_22, ↓wX1_goesOutBefore_23, ↓wX1_goesOutBefore_26, ↓wX1_goesOutBefore_27, ↓wX1_goesOutBefore_30, ↓wX1_goesOutBefore_31, ↓wX1_goesOutBefore_34, ↓wX1_goesOutBefore_35, ↓wX1_goesOutBefore_38, ↓wX1_goesOutBefore_41, ↓wX1_goesOutBefore_42, ↓wX1_goesOutBefore_45, ↓wX1_goesOutBefore_46, zQi_def, zQa_def, zQv_def, nI00, nI10, nI11, nI01, true_or, or_true, false_or, or_false, eq_self, true_implies, false_implies, not_true_eq_false, not_false_eq_true, zc9, zc1, zc2, zc3, zc1000, nI_m9, nI_add, pk_mul, ix_nI, vpT, zk_zpi, zn_zpi, zr_zpi, zk_zpa, zn_zpa, zr_zpa, zsz_zpi, zsz_zpa, zi_zpa, zpi_pa, zpa_zpa, true_and, and_true, and_self, hk, hk2])
  clear hk hk2
  have e : zi h a 3 = zi h b 3 → ¬ zi h a 3 < zi h b 3 := fun e q => by rw [e] at q; exact Int32.lt_irrefl q
  simp only [ltle] at hq e ⊢
  unfold zb at hq
  grind
theorem v_comesIn {E : zE} {Q : Int32 → zH → Prop} {a b : Nat} {h : zH} (hk : zk h a = 2) (hk2 : zk h b = 2) (hq : Q (zb (zi h b 2 < zi h a 2 ∨ (zi h a 2 = zi h b 2 ∧ zi h b 4 < zi h a 4))) h) : zMi E mX1_comesInBefore [.inr a, .inr b] h Q := by
  (refine eX1_comesInBefore 200 ?_; simp (disch := omega) only [↓wX1_comesInBefore_0, ↓wX1_comesInBefore_1, ↓wX1_comesInBefore_4, ↓wX1_comesInBefore_5, ↓wX1_comesInBefore_8, ↓wX1_comesInBefore_11, ↓wX1_comesInBefore_12, ↓wX1_comesInBefore_15, ↓wX1_comesInBefore_16, ↓wX1_comesInBefore_19, ↓wX1_comesInBefore_22, ↓wX1_comesInBefore_23, ↓wX1_comesInBefore_26, ↓wX1_comesInBefore_27, ↓wX1_comesInBefore_30, ↓wX1_comesInBefore_31, ↓wX1_comesInBefore_34, ↓wX1_comesInBefore_35, ↓wX1_comesInBefore_38, ↓wX1_comesInBefore_41, ↓wX1_comesInBefore_42, ↓wX1_comesInBefore_45, ↓wX1_comesInBefore_46, zQi_def, zQa_def, zQv_def, nI00, nI10, nI11, nI01, true_or, or_true, false_or, or_false, eq_self, true_implies, false_implies, not_true_eq_false, not_false_eq_true, zc9, zc1, zc2, zc3, zc1000, nI_m9, nI_add, pk_mul, ix_nI, vpT, zk_zpi, zn_zpi, zr_zpi, zk_zpa, zn_zpa, zr_zpa, zsz_zpi, zsz_zpa, zi_zpa, zpi_pa, zpa_zpa, true_and, and_true, and_self, hk, hk2])
  clear hk hk2
  have e : zi h a 2 = zi h b 2 → ¬ zi h b 2 < zi h a 2 := fun e q => by rw [e] at q; exact Int32.lt_irrefl q
  simp only [ltle] at hq e ⊢
  unfold zb at hq
  grind

