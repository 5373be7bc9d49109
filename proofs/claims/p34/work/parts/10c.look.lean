/-! The class: looking at a world. -/
theorem CK_1 {G : Nat → Nat → Int32} {r : Nat → Int32} {nk : Nat} (h : CK G r nk) : ∀ k, k < nk → G (21 + k) 1 = r (281 + 7 * k + 1) := fun k hk => h k hk 1 (by omega)
theorem l_keepersAt {E : zE} {Q : Int32 → zH → Prop} {w nk : Nat} {x : Int32} {h : zH} {G : Nat → Nat → Int32} {p : Nat → Nat} {r : Nat → Int32} {k' n' : Nat} (hw : WS h w) (hn : nk ≤ 8) (g5 : G 0 5 = nI nk) (hK : ∀ k, k < nk → G (21 + k) 1 = r (281 + 7 * k + 1)) (hq : Q (nI (kO r x nk)) (WST h w G p)) (d : Nat) : ∀ i, i + d = nk → zJ E mX7_keepersAt (zQi Q) 4 [some (.inr w), some (.inl x), some (.inl (nI (kO r x i))), some (.inl (nI i))] [] (WST h w G p) k' n' := by
  obtain ⟨wk, ⟨wr7, wr8, wr9, wr10, wr11⟩, ⟨wk1, wk2, wk3, wk4, wk5⟩, ⟨wn1, wn2, wn3, wn4, wn5⟩, ⟨wRr, wRk, wR5, wRs, wRn⟩, ⟨wSr, wSk⟩, ⟨wKr, wKk⟩, wTk⟩ := id hw
  induction d with
  | zero =>
    intro i hi
    obtain rfl : i = nk := by omega
    (refine jX7_keepersAt 200 ?_; simp (disch := omega) only [↓wX7_keepersAt_0, ↓wX7_keepersAt_1, ↓wX7_keepersAt_2, ↓wX7_keepersAt_3, ↓wX7_keepersAt_4, ↓wX7_keepersAt_5, ↓wX7_keepersAt_6, ↓wX7_keepersAt_9, ↓wX7_keepersAt_12, ↓wX7_keepersAt_13, ↓wX7_keepersAt_16, ↓wX7_keepersAt_17, ↓wX7_keepersAt_18, ↓wX7_keepersAt_21, ↓wX7_keepersAt_22, ↓wX7_keepersAt_25, ↓wX7_keepersAt_28, ↓wX7_keepersAt_31, ↓wX7_keepersAt_34, ↓wX7_keepersAt_35, zQi_def, zQa_def, zQv_def, nI00, nI10, nI11, nI01, true_or, or_true, false_or, or_false, eq_self, true_implies, false_implies, not_true_eq_false, not_false_eq_true, zc9, zc1, zc2, zc3, zc1000, nI_m9, nI_add, pk_mul, ix_nI, vpT, zk_zpi, zn_zpi, zr_zpi, zk_zpa, zn_zpa, zr_zpa, zsz_zpi, zsz_zpa, zi_zpa, zpi_pa, zpa_zpa, true_and, and_true, and_self, zk_WST, zn_WST, zsz_WST, zi_WST, zi_WST0, zr_WST5, zr_WSTN, zpa_WST, zpa_WST0, zpr_WST5, zup2_eq, zup2_ne, zup_eq, zup_ne, q22, q23, q24, q25, q26, q27, zAk26, wk, wr7, wr8, wr9, wr10, wr11, wk1, wk2, wk3, wk4, wk5, wn1, wn2, wn3, wn4, wn5, wRr, wRk, wR5, wRs, wRn, wSr, wSk, wKr, wKk, wTk, g5, nI_leI, Nat.le_refl])
    exact hq
  | succ d ih =>
    intro i hi
    have hle : ¬ nk ≤ i := by omega
    have key : kO r x (i + 1) = kO r x i + if r (281 + 7 * i + 1) = x then 1 else 0 := rfl
    (refine jX7_keepersAt 200 ?_; simp (disch := omega) only [↓wX7_keepersAt_0, ↓wX7_keepersAt_1, ↓wX7_keepersAt_2, ↓wX7_keepersAt_3, ↓wX7_keepersAt_4, ↓wX7_keepersAt_5, ↓wX7_keepersAt_6, ↓wX7_keepersAt_9, ↓wX7_keepersAt_12, ↓wX7_keepersAt_13, ↓wX7_keepersAt_16, ↓wX7_keepersAt_17, ↓wX7_keepersAt_18, ↓wX7_keepersAt_21, ↓wX7_keepersAt_22, ↓wX7_keepersAt_25, ↓wX7_keepersAt_28, ↓wX7_keepersAt_31, ↓wX7_keepersAt_34, ↓wX7_keepersAt_35, zQi_def, zQa_def, zQv_def, nI00, nI10, nI11, nI01, true_or, or_true, false_or, or_false, eq_self, true_implies, false_implies, not_true_eq_false, not_false_eq_true, zc9, zc1, zc2, zc3, zc1000, nI_m9, nI_add, pk_mul, ix_nI, vpT, zk_zpi, zn_zpi, zr_zpi, zk_zpa, zn_zpa, zr_zpa, zsz_zpi, zsz_zpa, zi_zpa, zpi_pa, zpa_zpa, true_and, and_true, and_self, zk_WST, zn_WST, zsz_WST, zi_WST, zi_WST0, zr_WST5, zr_WSTN, zpa_WST, zpa_WST0, zpr_WST5, zup2_eq, zup2_ne, zup_eq, zup_ne, q22, q23, q24, q25, q26, q27, zAk26, wk, wr7, wr8, wr9, wr10, wr11, wk1, wk2, wk3, wk4, wk5, wn1, wn2, wn3, wn4, wn5, wRr, wRk, wR5, wRs, wRn, wSr, wSk, wKr, wKk, wTk, g5, nI_leI, hle, hK])
    refine ⟨fun e => ?_, fun e => ?_⟩
    · have t := ih (i + 1) (by omega)
      rw [key, if_neg e] at t
      exact t
    · have t := ih (i + 1) (by omega)
      rw [key, if_pos e] at t
      exact t
theorem v_keepersAt {E : zE} {Q : Int32 → zH → Prop} {w nk : Nat} {x : Int32} {h : zH} {G : Nat → Nat → Int32} {p : Nat → Nat} {r : Nat → Int32} (hw : WS h w) (hn : nk ≤ 8) (g5 : G 0 5 = nI nk) (hK : ∀ k, k < nk → G (21 + k) 1 = r (281 + 7 * k + 1)) (hq : Q (nI (kO r x nk)) (WST h w G p)) : zMi E mX7_keepersAt [.inr w, .inl x] (WST h w G p) Q := by
  (refine eX7_keepersAt 200 ?_; simp (disch := omega) only [↓wX7_keepersAt_0, ↓wX7_keepersAt_1, ↓wX7_keepersAt_2, ↓wX7_keepersAt_3, ↓wX7_keepersAt_4, ↓wX7_keepersAt_5, ↓wX7_keepersAt_6, ↓wX7_keepersAt_9, ↓wX7_keepersAt_12, ↓wX7_keepersAt_13, ↓wX7_keepersAt_16, ↓wX7_keepersAt_17, ↓wX7_keepersAt_18, ↓wX7_keepersAt_21, ↓wX7_keepersAt_22, ↓wX7_keepersAt_25, ↓wX7_keepersAt_28, ↓wX7_keepersAt_31, ↓wX7_keepersAt_34, ↓wX7_keepersAt_35, zQi_def, zQa_def, zQv_def, nI00, nI10, nI11, nI01, true_or, or_true, false_or, or_false, eq_self, true_implies, false_implies, not_true_eq_false, not_false_eq_true, zc9, zc1, zc2, zc3, zc1000, nI_m9, nI_add, pk_mul, ix_nI, vpT, zk_zpi, zn_zpi, zr_zpi, zk_zpa, zn_zpa, zr_zpa, zsz_zpi, zsz_zpa, zi_zpa, zpi_pa, zpa_zpa, true_and, and_true, and_self])
  exact l_keepersAt hw hn g5 hK hq nk 0 (by omega)
theorem l_turnsForC {E : zE} {Q : Int32 → zH → Prop} {w n : Nat} {x : Int32} {h : zH} {G : Nat → Nat → Int32} {p : Nat → Nat} {r : Nat → Int32} {k' n' : Nat} (hw : WS h w) (hn : n ≤ 12) (hp : ∀ t, t < 12 → p t < 12) (g6 : G 0 6 = nI n) (hT : ∀ t, t < n → G (29 + p t) 1 = r (337 + 8 * t + 1)) (hq : Q (nI (tO r x n)) (WST h w G p)) (d : Nat) : ∀ i, i + d = n → zJ E mX7_turnsFor (zQi Q) 4 [some (.inr w), some (.inl x), some (.inl (nI (tO r x i))), some (.inl (nI i))] [] (WST h w G p) k' n' := by
  obtain ⟨wk, ⟨wr7, wr8, wr9, wr10, wr11⟩, ⟨wk1, wk2, wk3, wk4, wk5⟩, ⟨wn1, wn2, wn3, wn4, wn5⟩, ⟨wRr, wRk, wR5, wRs, wRn⟩, ⟨wSr, wSk⟩, ⟨wKr, wKk⟩, wTk⟩ := id hw
  induction d with
  | zero =>
    intro i hi
    obtain rfl : i = n := by omega
    (refine jX7_turnsFor 200 ?_; simp (disch := omega) only [↓wX7_turnsFor_0, ↓wX7_turnsFor_1, ↓wX7_turnsFor_2, ↓wX7_turnsFor_3, ↓wX7_turnsFor_4, ↓wX7_turnsFor_5, ↓wX7_turnsFor_6, ↓wX7_turnsFor_9, ↓wX7_turnsFor_12, ↓wX7_turnsFor_13, ↓wX7_turnsFor_16, ↓wX7_turnsFor_17, ↓wX7_turnsFor_18, ↓wX7_turnsFor_21, ↓wX7_turnsFor_22, ↓wX7_turnsFor_25, ↓wX7_turnsFor_28, ↓wX7_turnsFor_31, ↓wX7_turnsFor_34, ↓wX7_turnsFor_35, zQi_def, zQa_def, zQv_def, nI00, nI10, nI11, nI01, true_or, or_true, false_or, or_false, eq_self, true_implies, false_implies, not_true_eq_false, not_false_eq_true, zc9, zc1, zc2, zc3, zc1000, nI_m9, nI_add, pk_mul, ix_nI, vpT, zk_zpi, zn_zpi, zr_zpi, zk_zpa, zn_zpa, zr_zpa, zsz_zpi, zsz_zpa, zi_zpa, zpi_pa, zpa_zpa, true_and, and_true, and_self, zk_WST, zn_WST, zsz_WST, zi_WST, zi_WST0, zr_WST5, zr_WSTN, zpa_WST, zpa_WST0, zpr_WST5, zup2_eq, zup2_ne, zup_eq, zup_ne, q22, q23, q24, q25, q26, q27, zAk26, wk, wr7, wr8, wr9, wr10, wr11, wk1, wk2, wk3, wk4, wk5, wn1, wn2, wn3, wn4, wn5, wRr, wRk, wR5, wRs, wRn, wSr, wSk, wKr, wKk, wTk, g6, nI_leI, Nat.le_refl])
    exact hq
  | succ d ih =>
    intro i hi
    have hle : ¬ n ≤ i := by omega
    have hpi := hp i (by omega)
    have key : tO r x (i + 1) = tO r x i + if r (337 + 8 * i + 1) = x then 1 else 0 := rfl
    (refine jX7_turnsFor 200 ?_; simp (disch := omega) only [↓wX7_turnsFor_0, ↓wX7_turnsFor_1, ↓wX7_turnsFor_2, ↓wX7_turnsFor_3, ↓wX7_turnsFor_4, ↓wX7_turnsFor_5, ↓wX7_turnsFor_6, ↓wX7_turnsFor_9, ↓wX7_turnsFor_12, ↓wX7_turnsFor_13, ↓wX7_turnsFor_16, ↓wX7_turnsFor_17, ↓wX7_turnsFor_18, ↓wX7_turnsFor_21, ↓wX7_turnsFor_22, ↓wX7_turnsFor_25, ↓wX7_turnsFor_28, ↓wX7_turnsFor_31, ↓wX7_turnsFor_34, ↓wX7_turnsFor_35, zQi_def, zQa_def, zQv_def, nI00, nI10, nI11, nI01, true_or, or_true, false_or, or_false, eq_self, true_implies, false_implies, not_true_eq_false, not_false_eq_true, zc9, zc1, zc2, zc3, zc1000, nI_m9, nI_add, pk_mul, ix_nI, vpT, zk_zpi, zn_zpi, zr_zpi, zk_zpa, zn_zpa, zr_zpa, zsz_zpi, zsz_zpa, zi_zpa, zpi_pa, zpa_zpa, true_and, and_true, and_self, zk_WST, zn_WST, zsz_WST, zi_WST, zi_WST0, zr_WST5, zr_WSTN, zpa_WST, zpa_WST0, zpr_WST5, zup2_eq, zup2_ne, zup_eq, zup_ne, q22, q23, q24, q25, q26, q27, zAk26, wk, wr7, wr8, wr9, wr10, wr11, wk1, wk2, wk3, wk4, wk5, wn1, wn2, wn3, wn4, wn5, wRr, wRk, wR5, wRs, wRn, wSr, wSk, wKr, wKk, wTk, g6, nI_leI, hle, hT])
    refine ⟨fun e => ?_, fun e => ?_⟩
    · have t := ih (i + 1) (by omega)
      rw [key, if_neg e] at t
      exact t
    · have t := ih (i + 1) (by omega)
      rw [key, if_pos e] at t
      exact t
theorem v_turnsFor {E : zE} {Q : Int32 → zH → Prop} {w n : Nat} {x : Int32} {h : zH} {G : Nat → Nat → Int32} {p : Nat → Nat} {r : Nat → Int32} (hw : WS h w) (hn : n ≤ 12) (hp : ∀ t, t < 12 → p t < 12) (g6 : G 0 6 = nI n) (hT : ∀ t, t < n → G (29 + p t) 1 = r (337 + 8 * t + 1)) (hq : Q (nI (tO r x n)) (WST h w G p)) : zMi E mX7_turnsFor [.inr w, .inl x] (WST h w G p) Q := by
  (refine eX7_turnsFor 200 ?_; simp (disch := omega) only [↓wX7_turnsFor_0, ↓wX7_turnsFor_1, ↓wX7_turnsFor_2, ↓wX7_turnsFor_3, ↓wX7_turnsFor_4, ↓wX7_turnsFor_5, ↓wX7_turnsFor_6, ↓wX7_turnsFor_9, ↓wX7_turnsFor_12, ↓wX7_turnsFor_13, ↓wX7_turnsFor_16, ↓wX7_turnsFor_17, ↓wX7_turnsFor_18, ↓wX7_turnsFor_21, ↓wX7_turnsFor_22, ↓wX7_turnsFor_25, ↓wX7_turnsFor_28, ↓wX7_turnsFor_31, ↓wX7_turnsFor_34, ↓wX7_turnsFor_35, zQi_def, zQa_def, zQv_def, nI00, nI10, nI11, nI01, true_or, or_true, false_or, or_false, eq_self, true_implies, false_implies, not_true_eq_false, not_false_eq_true, zc9, zc1, zc2, zc3, zc1000, nI_m9, nI_add, pk_mul, ix_nI, vpT, zk_zpi, zn_zpi, zr_zpi, zk_zpa, zn_zpa, zr_zpa, zsz_zpi, zsz_zpa, zi_zpa, zpi_pa, zpa_zpa, true_and, and_true, and_self])
  exact l_turnsForC hw hn hp g6 hT hq n 0 (by omega)
theorem l_firstC {E : zE} {Q : Int32 → zH → Prop} {w nk : Nat} {x : Int32} {h : zH} {G : Nat → Nat → Int32} {p : Nat → Nat} {r : Nat → Int32} {k' n' : Nat} (hw : WS h w) (hn : nk ≤ 8) (g5 : G 0 5 = nI nk) (hK : ∀ k, k < nk → G (21 + k) 1 = r (281 + 7 * k + 1)) (d : Nat) : ∀ i, i + d = nk → Q (fO r x i d) (WST h w G p) → zJ E mX7_firstKeeperOn (zQi Q) 2 [some (.inr w), some (.inl x), some (.inl (nI i))] [] (WST h w G p) k' n' := by
  obtain ⟨wk, ⟨wr7, wr8, wr9, wr10, wr11⟩, ⟨wk1, wk2, wk3, wk4, wk5⟩, ⟨wn1, wn2, wn3, wn4, wn5⟩, ⟨wRr, wRk, wR5, wRs, wRn⟩, ⟨wSr, wSk⟩, ⟨wKr, wKk⟩, wTk⟩ := id hw
  induction d with
  | zero =>
    intro i hi hq
    obtain rfl : i = nk := by omega
    (refine jX7_firstKeeperOn 200 ?_; simp (disch := omega) only [↓wX7_firstKeeperOn_0, ↓wX7_firstKeeperOn_1, ↓wX7_firstKeeperOn_2, ↓wX7_firstKeeperOn_3, ↓wX7_firstKeeperOn_4, ↓wX7_firstKeeperOn_7, ↓wX7_firstKeeperOn_10, ↓wX7_firstKeeperOn_11, ↓wX7_firstKeeperOn_14, ↓wX7_firstKeeperOn_15, ↓wX7_firstKeeperOn_16, ↓wX7_firstKeeperOn_19, ↓wX7_firstKeeperOn_20, ↓wX7_firstKeeperOn_23, ↓wX7_firstKeeperOn_24, ↓wX7_firstKeeperOn_25, ↓wX7_firstKeeperOn_28, ↓wX7_firstKeeperOn_31, ↓wX7_firstKeeperOn_33, zQi_def, zQa_def, zQv_def, nI00, nI10, nI11, nI01, true_or, or_true, false_or, or_false, eq_self, true_implies, false_implies, not_true_eq_false, not_false_eq_true, zc9, zc1, zc2, zc3, zc1000, nI_m9, nI_add, pk_mul, ix_nI, vpT, zk_zpi, zn_zpi, zr_zpi, zk_zpa, zn_zpa, zr_zpa, zsz_zpi, zsz_zpa, zi_zpa, zpi_pa, zpa_zpa, true_and, and_true, and_self, zk_WST, zn_WST, zsz_WST, zi_WST, zi_WST0, zr_WST5, zr_WSTN, zpa_WST, zpa_WST0, zpr_WST5, zup2_eq, zup2_ne, zup_eq, zup_ne, q22, q23, q24, q25, q26, q27, zAk26, wk, wr7, wr8, wr9, wr10, wr11, wk1, wk2, wk3, wk4, wk5, wn1, wn2, wn3, wn4, wn5, wRr, wRk, wR5, wRs, wRn, wSr, wSk, wKr, wKk, wTk, g5, nI_leI, Nat.le_refl])
    exact hq
  | succ d ih =>
    intro i hi hq
    have hle : ¬ nk ≤ i := by omega
    have key : fO r x i (d + 1) = if r (281 + 7 * i + 1) = x then nI i else fO r x (i + 1) d := rfl
    rw [key] at hq
    (refine jX7_firstKeeperOn 200 ?_; simp (disch := omega) only [↓wX7_firstKeeperOn_0, ↓wX7_firstKeeperOn_1, ↓wX7_firstKeeperOn_2, ↓wX7_firstKeeperOn_3, ↓wX7_firstKeeperOn_4, ↓wX7_firstKeeperOn_7, ↓wX7_firstKeeperOn_10, ↓wX7_firstKeeperOn_11, ↓wX7_firstKeeperOn_14, ↓wX7_firstKeeperOn_15, ↓wX7_firstKeeperOn_16, ↓wX7_firstKeeperOn_19, ↓wX7_firstKeeperOn_20, ↓wX7_firstKeeperOn_23, ↓wX7_firstKeeperOn_24, ↓wX7_firstKeeperOn_25, ↓wX7_firstKeeperOn_28, ↓wX7_firstKeeperOn_31, ↓wX7_firstKeeperOn_33, zQi_def, zQa_def, zQv_def, nI00, nI10, nI11, nI01, true_or, or_true, false_or, or_false, eq_self, true_implies, false_implies, not_true_eq_false, not_false_eq_true, zc9, zc1, zc2, zc3, zc1000, nI_m9, nI_add, pk_mul, ix_nI, vpT, zk_zpi, zn_zpi, zr_zpi, zk_zpa, zn_zpa, zr_zpa, zsz_zpi, zsz_zpa, zi_zpa, zpi_pa, zpa_zpa, true_and, and_true, and_self, zk_WST, zn_WST, zsz_WST, zi_WST, zi_WST0, zr_WST5, zr_WSTN, zpa_WST, zpa_WST0, zpr_WST5, zup2_eq, zup2_ne, zup_eq, zup_ne, q22, q23, q24, q25, q26, q27, zAk26, wk, wr7, wr8, wr9, wr10, wr11, wk1, wk2, wk3, wk4, wk5, wn1, wn2, wn3, wn4, wn5, wRr, wRk, wR5, wRs, wRn, wSr, wSk, wKr, wKk, wTk, g5, nI_leI, hle, hK])
    refine ⟨fun e => ?_, fun e => ?_⟩
    · rw [if_neg e] at hq
      exact ih (i + 1) (by omega) hq
    · rw [if_pos e] at hq
      exact hq
theorem v_firstKeeperOn {E : zE} {Q : Int32 → zH → Prop} {w nk : Nat} {x : Int32} {h : zH} {G : Nat → Nat → Int32} {p : Nat → Nat} {r : Nat → Int32} (hw : WS h w) (hn : nk ≤ 8) (g5 : G 0 5 = nI nk) (hK : ∀ k, k < nk → G (21 + k) 1 = r (281 + 7 * k + 1)) (hq : Q (fO r x 0 nk) (WST h w G p)) : zMi E mX7_firstKeeperOn [.inr w, .inl x] (WST h w G p) Q := by
  (refine eX7_firstKeeperOn 200 ?_; simp (disch := omega) only [↓wX7_firstKeeperOn_0, ↓wX7_firstKeeperOn_1, ↓wX7_firstKeeperOn_2, ↓wX7_firstKeeperOn_3, ↓wX7_firstKeeperOn_4, ↓wX7_firstKeeperOn_7, ↓wX7_firstKeeperOn_10, ↓wX7_firstKeeperOn_11, ↓wX7_firstKeeperOn_14, ↓wX7_firstKeeperOn_15, ↓wX7_firstKeeperOn_16, ↓wX7_firstKeeperOn_19, ↓wX7_firstKeeperOn_20, ↓wX7_firstKeeperOn_23, ↓wX7_firstKeeperOn_24, ↓wX7_firstKeeperOn_25, ↓wX7_firstKeeperOn_28, ↓wX7_firstKeeperOn_31, ↓wX7_firstKeeperOn_33, zQi_def, zQa_def, zQv_def, nI00, nI10, nI11, nI01, true_or, or_true, false_or, or_false, eq_self, true_implies, false_implies, not_true_eq_false, not_false_eq_true, zc9, zc1, zc2, zc3, zc1000, nI_m9, nI_add, pk_mul, ix_nI, vpT, zk_zpi, zn_zpi, zr_zpi, zk_zpa, zn_zpa, zr_zpa, zsz_zpi, zsz_zpa, zi_zpa, zpi_pa, zpa_zpa, true_and, and_true, and_self])
  exact l_firstC hw hn g5 hK nk 0 (by omega) hq
theorem v_rockPart {E : zE} {Q : Int32 → zH → Prop} {w nr nk n td : Nat} {i x : Int32} {h : zH} {G : Nat → Nat → Int32} {p : Nat → Nat} {r : Nat → Int32} (hw : WS h w) (hR : CR G p r nr nk n td) (hq : Q (qRock r nr nk n i x) (WST h w G p)) : zMi E mX7_rockPart [.inr w, .inl i, .inl x] (WST h w G p) Q := by
  obtain ⟨wk, ⟨wr7, wr8, wr9, wr10, wr11⟩, ⟨wk1, wk2, wk3, wk4, wk5⟩, ⟨wn1, wn2, wn3, wn4, wn5⟩, ⟨wRr, wRk, wR5, wRs, wRn⟩, ⟨wSr, wSk⟩, ⟨wKr, wKk⟩, wTk⟩ := id hw
  obtain ⟨hI, hX, hA, ⟨hB1, hB2⟩, ⟨h3, hRd, hSt, hFr, hLd⟩, ⟨hK, hKf⟩, hTu, hP⟩ := id hR
  obtain ⟨i1, i2, i3, i0, hb, hTW, hKP⟩ := id hI
  obtain ⟨a0, a1, a2, a3, a4, a5, a6⟩ := id hA
  have g4 : G 0 4 = nI nr := a4.trans i1
  have g5 : G 0 5 = nI nk := a5.trans i2
  have g6 : G 0 6 = nI n := a6.trans i3
  unfold qRock at hq
  (refine eX7_rockPart 200 ?_; simp (disch := omega) only [↓wX7_rockPart_0, ↓wX7_rockPart_1, ↓wX7_rockPart_2, ↓wX7_rockPart_5, ↓wX7_rockPart_8, ↓wX7_rockPart_9, ↓wX7_rockPart_10, ↓wX7_rockPart_11, ↓wX7_rockPart_52, ↓wX7_rockPart_53, ↓wX7_rockPart_56, ↓wX7_rockPart_57, ↓wX7_rockPart_58, ↓wX7_rockPart_61, ↓wX7_rockPart_62, ↓wX7_rockPart_63, ↓wX7_rockPart_66, ↓wX7_rockPart_67, ↓wX7_rockPart_68, ↓wX7_rockPart_71, ↓wX7_rockPart_72, ↓wX7_rockPart_73, ↓wX7_rockPart_76, ↓wX7_rockPart_77, ↓wX7_rockPart_78, ↓wX7_rockPart_81, ↓wX7_rockPart_82, ↓wX7_rockPart_83, ↓wX7_rockPart_84, ↓wX7_rockPart_87, ↓wX7_rockPart_88, ↓wX7_rockPart_89, ↓wX7_rockPart_90, ↓wX7_rockPart_93, ↓wX7_rockPart_94, ↓wX7_rockPart_95, ↓wX7_rockPart_98, ↓wX7_rockPart_99, ↓wX7_rockPart_100, ↓wX7_rockPart_103, ↓wX7_rockPart_104, ↓wX7_rockPart_105, ↓wX7_rockPart_106, ↓wX7_rockPart_109, ↓wX7_rockPart_110, ↓wX7_rockPart_111, zQi_def, zQa_def, zQv_def, nI00, nI10, nI11, nI01, true_or, or_true, false_or, or_false, eq_self, true_implies, false_implies, not_true_eq_false, not_false_eq_true, zc9, zc1, zc2, zc3, zc1000, nI_m9, nI_add, pk_mul, ix_nI, vpT, zk_zpi, zn_zpi, zr_zpi, zk_zpa, zn_zpa, zr_zpa, zsz_zpi, zsz_zpa, zi_zpa, zpi_pa, zpa_zpa, true_and, and_true, and_self, zk_WST, zn_WST, zsz_WST, zi_WST, zi_WST0, zr_WST5, zr_WSTN, zpa_WST, zpa_WST0, zpr_WST5, zup2_eq, zup2_ne, zup_eq, zup_ne, q22, q23, q24, q25, q26, q27, zAk26, wk, wr7, wr8, wr9, wr10, wr11, wk1, wk2, wk3, wk4, wk5, wn1, wn2, wn3, wn4, wn5, wRr, wRk, wR5, wRs, wRn, wSr, wSk, wKr, wKk, wTk])
  refine v_hasRock hw (by omega) g4 ?_
  by_cases hi : inN i nr
  · obtain ⟨a, ha, rfl⟩ := (inN_iff (by omega)).mp hi
    have hat : (nI a).toInt = (a : Int) := nIn (by omega)
    rw [zb_t hi]
    try simp (disch := omega) only [↓wX7_rockPart_0, ↓wX7_rockPart_1, ↓wX7_rockPart_2, ↓wX7_rockPart_5, ↓wX7_rockPart_8, ↓wX7_rockPart_9, ↓wX7_rockPart_10, ↓wX7_rockPart_11, ↓wX7_rockPart_52, ↓wX7_rockPart_53, ↓wX7_rockPart_56, ↓wX7_rockPart_57, ↓wX7_rockPart_58, ↓wX7_rockPart_61, ↓wX7_rockPart_62, ↓wX7_rockPart_63, ↓wX7_rockPart_66, ↓wX7_rockPart_67, ↓wX7_rockPart_68, ↓wX7_rockPart_71, ↓wX7_rockPart_72, ↓wX7_rockPart_73, ↓wX7_rockPart_76, ↓wX7_rockPart_77, ↓wX7_rockPart_78, ↓wX7_rockPart_81, ↓wX7_rockPart_82, ↓wX7_rockPart_83, ↓wX7_rockPart_84, ↓wX7_rockPart_87, ↓wX7_rockPart_88, ↓wX7_rockPart_89, ↓wX7_rockPart_90, ↓wX7_rockPart_93, ↓wX7_rockPart_94, ↓wX7_rockPart_95, ↓wX7_rockPart_98, ↓wX7_rockPart_99, ↓wX7_rockPart_100, ↓wX7_rockPart_103, ↓wX7_rockPart_104, ↓wX7_rockPart_105, ↓wX7_rockPart_106, ↓wX7_rockPart_109, ↓wX7_rockPart_110, ↓wX7_rockPart_111, zQi_def, zQa_def, zQv_def, nI00, nI10, nI11, nI01, true_or, or_true, false_or, or_false, eq_self, true_implies, false_implies, not_true_eq_false, not_false_eq_true, zc9, zc1, zc2, zc3, zc1000, nI_m9, nI_add, pk_mul, ix_nI, vpT, zk_zpi, zn_zpi, zr_zpi, zk_zpa, zn_zpa, zr_zpa, zsz_zpi, zsz_zpa, zi_zpa, zpi_pa, zpa_zpa, true_and, and_true, and_self, zk_WST, zn_WST, zsz_WST, zi_WST, zi_WST0, zr_WST5, zr_WSTN, zpa_WST, zpa_WST0, zpr_WST5, zup2_eq, zup2_ne, zup_eq, zup_ne, q22, q23, q24, q25, q26, q27, zAk26, wk, wr7, wr8, wr9, wr10, wr11, wk1, wk2, wk3, wk4, wk5, wn1, wn2, wn3, wn4, wn5, wRr, wRk, wR5, wRs, wRn, wSr, wSk, wKr, wKk, wTk]
    simp only [inN_def] at hq
    refine ⟨fun ho => ?_, fun ho => ?_, fun ho => ?_, fun ho => ?_, fun ho => ?_, fun ho => ?_, fun ho => ?_, fun ho => ?_⟩
    · (repeat (first | rw [if_pos (by omega)] at hq | rw [if_neg (by omega)] at hq))
      exact hq
    · (repeat (first | rw [if_pos (by omega)] at hq | rw [if_neg (by omega)] at hq))
      rw [show x = nI 0 from i32k (by omega) ho, ixx_nI (by omega), ixx_nI (by omega)] at hq
      rw [h3 a ha 0 (by omega)]; exact hq
    · (repeat (first | rw [if_pos (by omega)] at hq | rw [if_neg (by omega)] at hq))
      rw [show x = nI 1 from i32k (by omega) ho, ixx_nI (by omega), ixx_nI (by omega)] at hq
      rw [h3 a ha 1 (by omega)]; exact hq
    · (repeat (first | rw [if_pos (by omega)] at hq | rw [if_neg (by omega)] at hq))
      rw [show x = nI 2 from i32k (by omega) ho, ixx_nI (by omega), ixx_nI (by omega)] at hq
      rw [h3 a ha 2 (by omega)]; exact hq
    · (repeat (first | rw [if_pos (by omega)] at hq | rw [if_neg (by omega)] at hq))
      refine v_keepersAt hw (by omega) g5 (CK_1 hK) ?_
      try simp (disch := omega) only [↓wX7_rockPart_0, ↓wX7_rockPart_1, ↓wX7_rockPart_2, ↓wX7_rockPart_5, ↓wX7_rockPart_8, ↓wX7_rockPart_9, ↓wX7_rockPart_10, ↓wX7_rockPart_11, ↓wX7_rockPart_52, ↓wX7_rockPart_53, ↓wX7_rockPart_56, ↓wX7_rockPart_57, ↓wX7_rockPart_58, ↓wX7_rockPart_61, ↓wX7_rockPart_62, ↓wX7_rockPart_63, ↓wX7_rockPart_66, ↓wX7_rockPart_67, ↓wX7_rockPart_68, ↓wX7_rockPart_71, ↓wX7_rockPart_72, ↓wX7_rockPart_73, ↓wX7_rockPart_76, ↓wX7_rockPart_77, ↓wX7_rockPart_78, ↓wX7_rockPart_81, ↓wX7_rockPart_82, ↓wX7_rockPart_83, ↓wX7_rockPart_84, ↓wX7_rockPart_87, ↓wX7_rockPart_88, ↓wX7_rockPart_89, ↓wX7_rockPart_90, ↓wX7_rockPart_93, ↓wX7_rockPart_94, ↓wX7_rockPart_95, ↓wX7_rockPart_98, ↓wX7_rockPart_99, ↓wX7_rockPart_100, ↓wX7_rockPart_103, ↓wX7_rockPart_104, ↓wX7_rockPart_105, ↓wX7_rockPart_106, ↓wX7_rockPart_109, ↓wX7_rockPart_110, ↓wX7_rockPart_111, zQi_def, zQa_def, zQv_def]
      exact hq
    · (repeat (first | rw [if_pos (by omega)] at hq | rw [if_neg (by omega)] at hq))
      refine v_turnsFor hw (by omega) hP.1 g6 (fun t ht => (hTu t ht).1 1 (by omega)) ?_
      try simp (disch := omega) only [↓wX7_rockPart_0, ↓wX7_rockPart_1, ↓wX7_rockPart_2, ↓wX7_rockPart_5, ↓wX7_rockPart_8, ↓wX7_rockPart_9, ↓wX7_rockPart_10, ↓wX7_rockPart_11, ↓wX7_rockPart_52, ↓wX7_rockPart_53, ↓wX7_rockPart_56, ↓wX7_rockPart_57, ↓wX7_rockPart_58, ↓wX7_rockPart_61, ↓wX7_rockPart_62, ↓wX7_rockPart_63, ↓wX7_rockPart_66, ↓wX7_rockPart_67, ↓wX7_rockPart_68, ↓wX7_rockPart_71, ↓wX7_rockPart_72, ↓wX7_rockPart_73, ↓wX7_rockPart_76, ↓wX7_rockPart_77, ↓wX7_rockPart_78, ↓wX7_rockPart_81, ↓wX7_rockPart_82, ↓wX7_rockPart_83, ↓wX7_rockPart_84, ↓wX7_rockPart_87, ↓wX7_rockPart_88, ↓wX7_rockPart_89, ↓wX7_rockPart_90, ↓wX7_rockPart_93, ↓wX7_rockPart_94, ↓wX7_rockPart_95, ↓wX7_rockPart_98, ↓wX7_rockPart_99, ↓wX7_rockPart_100, ↓wX7_rockPart_103, ↓wX7_rockPart_104, ↓wX7_rockPart_105, ↓wX7_rockPart_106, ↓wX7_rockPart_109, ↓wX7_rockPart_110, ↓wX7_rockPart_111, zQi_def, zQa_def, zQv_def]
      exact hq
    · (repeat (first | rw [if_pos (by omega)] at hq | rw [if_neg (by omega)] at hq))
      rw [ixx_nI (by omega)] at hq
      rw [hRd a ha]; exact hq
    · (repeat (first | rw [if_pos (by omega)] at hq | rw [if_neg (by omega)] at hq))
      refine v_firstKeeperOn hw (by omega) g5 (CK_1 hK) ?_
      try simp (disch := omega) only [↓wX7_rockPart_0, ↓wX7_rockPart_1, ↓wX7_rockPart_2, ↓wX7_rockPart_5, ↓wX7_rockPart_8, ↓wX7_rockPart_9, ↓wX7_rockPart_10, ↓wX7_rockPart_11, ↓wX7_rockPart_52, ↓wX7_rockPart_53, ↓wX7_rockPart_56, ↓wX7_rockPart_57, ↓wX7_rockPart_58, ↓wX7_rockPart_61, ↓wX7_rockPart_62, ↓wX7_rockPart_63, ↓wX7_rockPart_66, ↓wX7_rockPart_67, ↓wX7_rockPart_68, ↓wX7_rockPart_71, ↓wX7_rockPart_72, ↓wX7_rockPart_73, ↓wX7_rockPart_76, ↓wX7_rockPart_77, ↓wX7_rockPart_78, ↓wX7_rockPart_81, ↓wX7_rockPart_82, ↓wX7_rockPart_83, ↓wX7_rockPart_84, ↓wX7_rockPart_87, ↓wX7_rockPart_88, ↓wX7_rockPart_89, ↓wX7_rockPart_90, ↓wX7_rockPart_93, ↓wX7_rockPart_94, ↓wX7_rockPart_95, ↓wX7_rockPart_98, ↓wX7_rockPart_99, ↓wX7_rockPart_100, ↓wX7_rockPart_103, ↓wX7_rockPart_104, ↓wX7_rockPart_105, ↓wX7_rockPart_106, ↓wX7_rockPart_109, ↓wX7_rockPart_110, ↓wX7_rockPart_111, zQi_def, zQa_def, zQv_def]
      exact hq
  · rw [zb_f hi]
    try simp (disch := omega) only [↓wX7_rockPart_0, ↓wX7_rockPart_1, ↓wX7_rockPart_2, ↓wX7_rockPart_5, ↓wX7_rockPart_8, ↓wX7_rockPart_9, ↓wX7_rockPart_10, ↓wX7_rockPart_11, ↓wX7_rockPart_52, ↓wX7_rockPart_53, ↓wX7_rockPart_56, ↓wX7_rockPart_57, ↓wX7_rockPart_58, ↓wX7_rockPart_61, ↓wX7_rockPart_62, ↓wX7_rockPart_63, ↓wX7_rockPart_66, ↓wX7_rockPart_67, ↓wX7_rockPart_68, ↓wX7_rockPart_71, ↓wX7_rockPart_72, ↓wX7_rockPart_73, ↓wX7_rockPart_76, ↓wX7_rockPart_77, ↓wX7_rockPart_78, ↓wX7_rockPart_81, ↓wX7_rockPart_82, ↓wX7_rockPart_83, ↓wX7_rockPart_84, ↓wX7_rockPart_87, ↓wX7_rockPart_88, ↓wX7_rockPart_89, ↓wX7_rockPart_90, ↓wX7_rockPart_93, ↓wX7_rockPart_94, ↓wX7_rockPart_95, ↓wX7_rockPart_98, ↓wX7_rockPart_99, ↓wX7_rockPart_100, ↓wX7_rockPart_103, ↓wX7_rockPart_104, ↓wX7_rockPart_105, ↓wX7_rockPart_106, ↓wX7_rockPart_109, ↓wX7_rockPart_110, ↓wX7_rockPart_111, zQi_def, zQa_def, zQv_def, nI00, nI10, nI11, nI01, true_or, or_true, false_or, or_false, eq_self, true_implies, false_implies, not_true_eq_false, not_false_eq_true, zc9, zc1, zc2, zc3, zc1000, nI_m9, nI_add, pk_mul, ix_nI, vpT, zk_zpi, zn_zpi, zr_zpi, zk_zpa, zn_zpa, zr_zpa, zsz_zpi, zsz_zpa, zi_zpa, zpi_pa, zpa_zpa, true_and, and_true, and_self, zk_WST, zn_WST, zsz_WST, zi_WST, zi_WST0, zr_WST5, zr_WSTN, zpa_WST, zpa_WST0, zpr_WST5, zup2_eq, zup2_ne, zup_eq, zup_ne, q22, q23, q24, q25, q26, q27, zAk26, wk, wr7, wr8, wr9, wr10, wr11, wk1, wk2, wk3, wk4, wk5, wn1, wn2, wn3, wn4, wn5, wRr, wRk, wR5, wRs, wRn, wSr, wSk, wKr, wKk, wTk]
    rw [if_neg (fun q => hi q.1)] at hq
    exact hq
theorem v_storePart {E : zE} {Q : Int32 → zH → Prop} {w nr nk n td : Nat} {i s x : Int32} {h : zH} {G : Nat → Nat → Int32} {p : Nat → Nat} {r : Nat → Int32} (hw : WS h w) (hR : CR G p r nr nk n td) (hq : Q (qSto r nr nk i s x) (WST h w G p)) : zMi E mX7_storePart [.inr w, .inl i, .inl s, .inl x] (WST h w G p) Q := by
  obtain ⟨wk, ⟨wr7, wr8, wr9, wr10, wr11⟩, ⟨wk1, wk2, wk3, wk4, wk5⟩, ⟨wn1, wn2, wn3, wn4, wn5⟩, ⟨wRr, wRk, wR5, wRs, wRn⟩, ⟨wSr, wSk⟩, ⟨wKr, wKk⟩, wTk⟩ := id hw
  obtain ⟨hI, hX, hA, ⟨hB1, hB2⟩, ⟨h3, hRd, hSt, hFr, hLd⟩, ⟨hK, hKf⟩, hTu, hP⟩ := id hR
  obtain ⟨i1, i2, i3, i0, hb, hTW, hKP⟩ := id hI
  obtain ⟨a0, a1, a2, a3, a4, a5, a6⟩ := id hA
  have g4 : G 0 4 = nI nr := a4.trans i1
  have g5 : G 0 5 = nI nk := a5.trans i2
  unfold qSto at hq
  (refine eX7_storePart 200 ?_; simp (disch := omega) only [↓wX7_storePart_0, ↓wX7_storePart_1, ↓wX7_storePart_2, ↓wX7_storePart_3, ↓wX7_storePart_6, ↓wX7_storePart_9, ↓wX7_storePart_10, ↓wX7_storePart_11, ↓wX7_storePart_12, ↓wX7_storePart_15, ↓wX7_storePart_16, ↓wX7_storePart_17, ↓wX7_storePart_20, ↓wX7_storePart_21, ↓wX7_storePart_22, ↓wX7_storePart_24, ↓wX7_storePart_25, ↓wX7_storePart_64, ↓wX7_storePart_66, ↓wX7_storePart_69, ↓wX7_storePart_70, ↓wX7_storePart_72, ↓wX7_storePart_75, ↓wX7_storePart_76, ↓wX7_storePart_78, ↓wX7_storePart_81, ↓wX7_storePart_82, ↓wX7_storePart_84, ↓wX7_storePart_87, ↓wX7_storePart_88, ↓wX7_storePart_90, ↓wX7_storePart_93, ↓wX7_storePart_94, ↓wX7_storePart_95, ↓wX7_storePart_96, ↓wX7_storePart_97, ↓wX7_storePart_100, ↓wX7_storePart_103, ↓wX7_storePart_104, ↓wX7_storePart_105, zQi_def, zQa_def, zQv_def, nI00, nI10, nI11, nI01, true_or, or_true, false_or, or_false, eq_self, true_implies, false_implies, not_true_eq_false, not_false_eq_true, zc9, zc1, zc2, zc3, zc1000, nI_m9, nI_add, pk_mul, ix_nI, vpT, zk_zpi, zn_zpi, zr_zpi, zk_zpa, zn_zpa, zr_zpa, zsz_zpi, zsz_zpa, zi_zpa, zpi_pa, zpa_zpa, true_and, and_true, and_self, zk_WST, zn_WST, zsz_WST, zi_WST, zi_WST0, zr_WST5, zr_WSTN, zpa_WST, zpa_WST0, zpr_WST5, zup2_eq, zup2_ne, zup_eq, zup_ne, q22, q23, q24, q25, q26, q27, zAk26, wk, wr7, wr8, wr9, wr10, wr11, wk1, wk2, wk3, wk4, wk5, wn1, wn2, wn3, wn4, wn5, wRr, wRk, wR5, wRs, wRn, wSr, wSk, wKr, wKk, wTk])
  refine v_hasStore hw (by omega) g4 ?_
  by_cases hi : inN i nr = true ∧ inN s 3 = true
  · obtain ⟨a, ha, rfl⟩ := (inN_iff (by omega)).mp hi.1
    obtain ⟨b, hb3, rfl⟩ := (inN_iff (by omega)).mp hi.2
    rw [zb_t hi]
    try simp (disch := omega) only [↓wX7_storePart_0, ↓wX7_storePart_1, ↓wX7_storePart_2, ↓wX7_storePart_3, ↓wX7_storePart_6, ↓wX7_storePart_9, ↓wX7_storePart_10, ↓wX7_storePart_11, ↓wX7_storePart_12, ↓wX7_storePart_15, ↓wX7_storePart_16, ↓wX7_storePart_17, ↓wX7_storePart_20, ↓wX7_storePart_21, ↓wX7_storePart_22, ↓wX7_storePart_24, ↓wX7_storePart_25, ↓wX7_storePart_64, ↓wX7_storePart_66, ↓wX7_storePart_69, ↓wX7_storePart_70, ↓wX7_storePart_72, ↓wX7_storePart_75, ↓wX7_storePart_76, ↓wX7_storePart_78, ↓wX7_storePart_81, ↓wX7_storePart_82, ↓wX7_storePart_84, ↓wX7_storePart_87, ↓wX7_storePart_88, ↓wX7_storePart_90, ↓wX7_storePart_93, ↓wX7_storePart_94, ↓wX7_storePart_95, ↓wX7_storePart_96, ↓wX7_storePart_97, ↓wX7_storePart_100, ↓wX7_storePart_103, ↓wX7_storePart_104, ↓wX7_storePart_105, zQi_def, zQa_def, zQv_def, nI00, nI10, nI11, nI01, true_or, or_true, false_or, or_false, eq_self, true_implies, false_implies, not_true_eq_false, not_false_eq_true, zc9, zc1, zc2, zc3, zc1000, nI_m9, nI_add, pk_mul, ix_nI, vpT, zk_zpi, zn_zpi, zr_zpi, zk_zpa, zn_zpa, zr_zpa, zsz_zpi, zsz_zpa, zi_zpa, zpi_pa, zpa_zpa, true_and, and_true, and_self, zk_WST, zn_WST, zsz_WST, zi_WST, zi_WST0, zr_WST5, zr_WSTN, zpa_WST, zpa_WST0, zpr_WST5, zup2_eq, zup2_ne, zup_eq, zup_ne, q22, q23, q24, q25, q26, q27, zAk26, wk, wr7, wr8, wr9, wr10, wr11, wk1, wk2, wk3, wk4, wk5, wn1, wn2, wn3, wn4, wn5, wRr, wRk, wR5, wRs, wRn, wSr, wSk, wKr, wKk, wTk]
    have e5 : (x = nI 5) = (x.toInt = 5) := by rw [i32eq, nIn (by omega)]; rfl
    have hat : (nI a).toInt = (a : Int) := nIn (by omega)
    have hbt : (nI b).toInt = (b : Int) := nIn (by omega)
    simp only [inN_def, e5] at hq
    refine ⟨fun ho => ?_, fun ho => ?_, fun ho => ?_, fun ho => ?_, fun ho => ?_, fun ho => ?_, fun ho => ?_⟩
    · (repeat (first | rw [if_pos (by omega)] at hq | rw [if_neg (by omega)] at hq))
      exact hq
    · (repeat (first | rw [if_pos (by omega)] at hq | rw [if_neg (by omega)] at hq))
      rw [show x = nI 0 from i32k (by omega) ho, ixx_nI (by omega), ixx_nI (by omega), ixx_nI (by omega)] at hq
      rw [hSt a ha b hb3 0 (by omega)]; exact hq
    · (repeat (first | rw [if_pos (by omega)] at hq | rw [if_neg (by omega)] at hq))
      rw [show x = nI 1 from i32k (by omega) ho, ixx_nI (by omega), ixx_nI (by omega), ixx_nI (by omega)] at hq
      rw [hSt a ha b hb3 1 (by omega)]; exact hq
    · (repeat (first | rw [if_pos (by omega)] at hq | rw [if_neg (by omega)] at hq))
      rw [show x = nI 2 from i32k (by omega) ho, ixx_nI (by omega), ixx_nI (by omega), ixx_nI (by omega)] at hq
      rw [hSt a ha b hb3 2 (by omega)]; exact hq
    · (repeat (first | rw [if_pos (by omega)] at hq | rw [if_neg (by omega)] at hq))
      rw [show x = nI 3 from i32k (by omega) ho, ixx_nI (by omega), ixx_nI (by omega), ixx_nI (by omega)] at hq
      rw [hSt a ha b hb3 3 (by omega)]; exact hq
    · (repeat (first | rw [if_pos (by omega)] at hq | rw [if_neg (by omega)] at hq))
      rw [show x = nI 4 from i32k (by omega) ho, ixx_nI (by omega), ixx_nI (by omega), ixx_nI (by omega)] at hq
      rw [hSt a ha b hb3 4 (by omega)]; exact hq
    · (repeat (first | rw [if_pos (by omega)] at hq | rw [if_neg (by omega)] at hq))
      rw [ixx_nI (by omega)] at hq
      refine v_keepersAt hw (by omega) g5 (CK_1 hK) ?_
      try simp (disch := omega) only [↓wX7_storePart_0, ↓wX7_storePart_1, ↓wX7_storePart_2, ↓wX7_storePart_3, ↓wX7_storePart_6, ↓wX7_storePart_9, ↓wX7_storePart_10, ↓wX7_storePart_11, ↓wX7_storePart_12, ↓wX7_storePart_15, ↓wX7_storePart_16, ↓wX7_storePart_17, ↓wX7_storePart_20, ↓wX7_storePart_21, ↓wX7_storePart_22, ↓wX7_storePart_24, ↓wX7_storePart_25, ↓wX7_storePart_64, ↓wX7_storePart_66, ↓wX7_storePart_69, ↓wX7_storePart_70, ↓wX7_storePart_72, ↓wX7_storePart_75, ↓wX7_storePart_76, ↓wX7_storePart_78, ↓wX7_storePart_81, ↓wX7_storePart_82, ↓wX7_storePart_84, ↓wX7_storePart_87, ↓wX7_storePart_88, ↓wX7_storePart_90, ↓wX7_storePart_93, ↓wX7_storePart_94, ↓wX7_storePart_95, ↓wX7_storePart_96, ↓wX7_storePart_97, ↓wX7_storePart_100, ↓wX7_storePart_103, ↓wX7_storePart_104, ↓wX7_storePart_105, zQi_def, zQa_def, zQv_def]
      refine v_need (by omega) (Nat.le_trans (kO_le _ _ _) hb.2.2.2) ?_
      try simp (disch := omega) only [↓wX7_storePart_0, ↓wX7_storePart_1, ↓wX7_storePart_2, ↓wX7_storePart_3, ↓wX7_storePart_6, ↓wX7_storePart_9, ↓wX7_storePart_10, ↓wX7_storePart_11, ↓wX7_storePart_12, ↓wX7_storePart_15, ↓wX7_storePart_16, ↓wX7_storePart_17, ↓wX7_storePart_20, ↓wX7_storePart_21, ↓wX7_storePart_22, ↓wX7_storePart_24, ↓wX7_storePart_25, ↓wX7_storePart_64, ↓wX7_storePart_66, ↓wX7_storePart_69, ↓wX7_storePart_70, ↓wX7_storePart_72, ↓wX7_storePart_75, ↓wX7_storePart_76, ↓wX7_storePart_78, ↓wX7_storePart_81, ↓wX7_storePart_82, ↓wX7_storePart_84, ↓wX7_storePart_87, ↓wX7_storePart_88, ↓wX7_storePart_90, ↓wX7_storePart_93, ↓wX7_storePart_94, ↓wX7_storePart_95, ↓wX7_storePart_96, ↓wX7_storePart_97, ↓wX7_storePart_100, ↓wX7_storePart_103, ↓wX7_storePart_104, ↓wX7_storePart_105, zQi_def, zQa_def, zQv_def]
      exact hq
  · rw [zb_f hi]
    try simp (disch := omega) only [↓wX7_storePart_0, ↓wX7_storePart_1, ↓wX7_storePart_2, ↓wX7_storePart_3, ↓wX7_storePart_6, ↓wX7_storePart_9, ↓wX7_storePart_10, ↓wX7_storePart_11, ↓wX7_storePart_12, ↓wX7_storePart_15, ↓wX7_storePart_16, ↓wX7_storePart_17, ↓wX7_storePart_20, ↓wX7_storePart_21, ↓wX7_storePart_22, ↓wX7_storePart_24, ↓wX7_storePart_25, ↓wX7_storePart_64, ↓wX7_storePart_66, ↓wX7_storePart_69, ↓wX7_storePart_70, ↓wX7_storePart_72, ↓wX7_storePart_75, ↓wX7_storePart_76, ↓wX7_storePart_78, ↓wX7_storePart_81, ↓wX7_storePart_82, ↓wX7_storePart_84, ↓wX7_storePart_87, ↓wX7_storePart_88, ↓wX7_storePart_90, ↓wX7_storePart_93, ↓wX7_storePart_94, ↓wX7_storePart_95, ↓wX7_storePart_96, ↓wX7_storePart_97, ↓wX7_storePart_100, ↓wX7_storePart_103, ↓wX7_storePart_104, ↓wX7_storePart_105, zQi_def, zQa_def, zQv_def, nI00, nI10, nI11, nI01, true_or, or_true, false_or, or_false, eq_self, true_implies, false_implies, not_true_eq_false, not_false_eq_true, zc9, zc1, zc2, zc3, zc1000, nI_m9, nI_add, pk_mul, ix_nI, vpT, zk_zpi, zn_zpi, zr_zpi, zk_zpa, zn_zpa, zr_zpa, zsz_zpi, zsz_zpa, zi_zpa, zpi_pa, zpa_zpa, true_and, and_true, and_self, zk_WST, zn_WST, zsz_WST, zi_WST, zi_WST0, zr_WST5, zr_WSTN, zpa_WST, zpa_WST0, zpr_WST5, zup2_eq, zup2_ne, zup_eq, zup_ne, q22, q23, q24, q25, q26, q27, zAk26, wk, wr7, wr8, wr9, wr10, wr11, wk1, wk2, wk3, wk4, wk5, wn1, wn2, wn3, wn4, wn5, wRr, wRk, wR5, wRs, wRn, wSr, wSk, wKr, wKk, wTk]
    rw [if_neg (fun q => hi q.1)] at hq
    exact hq
theorem v_keeperPart {E : zE} {Q : Int32 → zH → Prop} {w nr nk n td : Nat} {i x : Int32} {h : zH} {G : Nat → Nat → Int32} {p : Nat → Nat} {r : Nat → Int32} (hw : WS h w) (hR : CR G p r nr nk n td) (hq : Q (qKee r nk i x) (WST h w G p)) : zMi E mX7_keeperPart [.inr w, .inl i, .inl x] (WST h w G p) Q := by
  obtain ⟨wk, ⟨wr7, wr8, wr9, wr10, wr11⟩, ⟨wk1, wk2, wk3, wk4, wk5⟩, ⟨wn1, wn2, wn3, wn4, wn5⟩, ⟨wRr, wRk, wR5, wRs, wRn⟩, ⟨wSr, wSk⟩, ⟨wKr, wKk⟩, wTk⟩ := id hw
  obtain ⟨hI, hX, hA, ⟨hB1, hB2⟩, ⟨h3, hRd, hSt, hFr, hLd⟩, ⟨hK, hKf⟩, hTu, hP⟩ := id hR
  obtain ⟨i1, i2, i3, i0, hb, hTW, hKP⟩ := id hI
  obtain ⟨a0, a1, a2, a3, a4, a5, a6⟩ := id hA
  have g5 : G 0 5 = nI nk := a5.trans i2
  unfold qKee at hq
  (refine eX7_keeperPart 200 ?_; simp (disch := omega) only [↓wX7_keeperPart_0, ↓wX7_keeperPart_1, ↓wX7_keeperPart_2, ↓wX7_keeperPart_5, ↓wX7_keeperPart_8, ↓wX7_keeperPart_9, ↓wX7_keeperPart_10, ↓wX7_keeperPart_11, ↓wX7_keeperPart_14, ↓wX7_keeperPart_15, ↓wX7_keeperPart_16, ↓wX7_keeperPart_17, ↓wX7_keeperPart_18, ↓wX7_keeperPart_60, ↓wX7_keeperPart_61, ↓wX7_keeperPart_64, ↓wX7_keeperPart_65, ↓wX7_keeperPart_66, ↓wX7_keeperPart_69, ↓wX7_keeperPart_70, ↓wX7_keeperPart_71, ↓wX7_keeperPart_74, ↓wX7_keeperPart_75, ↓wX7_keeperPart_76, ↓wX7_keeperPart_79, ↓wX7_keeperPart_80, ↓wX7_keeperPart_81, ↓wX7_keeperPart_84, ↓wX7_keeperPart_85, ↓wX7_keeperPart_86, ↓wX7_keeperPart_89, ↓wX7_keeperPart_90, ↓wX7_keeperPart_91, ↓wX7_keeperPart_94, ↓wX7_keeperPart_95, ↓wX7_keeperPart_96, zQi_def, zQa_def, zQv_def, nI00, nI10, nI11, nI01, true_or, or_true, false_or, or_false, eq_self, true_implies, false_implies, not_true_eq_false, not_false_eq_true, zc9, zc1, zc2, zc3, zc1000, nI_m9, nI_add, pk_mul, ix_nI, vpT, zk_zpi, zn_zpi, zr_zpi, zk_zpa, zn_zpa, zr_zpa, zsz_zpi, zsz_zpa, zi_zpa, zpi_pa, zpa_zpa, true_and, and_true, and_self, zk_WST, zn_WST, zsz_WST, zi_WST, zi_WST0, zr_WST5, zr_WSTN, zpa_WST, zpa_WST0, zpr_WST5, zup2_eq, zup2_ne, zup_eq, zup_ne, q22, q23, q24, q25, q26, q27, zAk26, wk, wr7, wr8, wr9, wr10, wr11, wk1, wk2, wk3, wk4, wk5, wn1, wn2, wn3, wn4, wn5, wRr, wRk, wR5, wRs, wRn, wSr, wSk, wKr, wKk, wTk])
  refine v_hasKeeper hw (by omega) g5 ?_
  by_cases hi : inN i nk
  · obtain ⟨a, ha, rfl⟩ := (inN_iff (by omega)).mp hi
    rw [zb_t hi]
    try simp (disch := omega) only [↓wX7_keeperPart_0, ↓wX7_keeperPart_1, ↓wX7_keeperPart_2, ↓wX7_keeperPart_5, ↓wX7_keeperPart_8, ↓wX7_keeperPart_9, ↓wX7_keeperPart_10, ↓wX7_keeperPart_11, ↓wX7_keeperPart_14, ↓wX7_keeperPart_15, ↓wX7_keeperPart_16, ↓wX7_keeperPart_17, ↓wX7_keeperPart_18, ↓wX7_keeperPart_60, ↓wX7_keeperPart_61, ↓wX7_keeperPart_64, ↓wX7_keeperPart_65, ↓wX7_keeperPart_66, ↓wX7_keeperPart_69, ↓wX7_keeperPart_70, ↓wX7_keeperPart_71, ↓wX7_keeperPart_74, ↓wX7_keeperPart_75, ↓wX7_keeperPart_76, ↓wX7_keeperPart_79, ↓wX7_keeperPart_80, ↓wX7_keeperPart_81, ↓wX7_keeperPart_84, ↓wX7_keeperPart_85, ↓wX7_keeperPart_86, ↓wX7_keeperPart_89, ↓wX7_keeperPart_90, ↓wX7_keeperPart_91, ↓wX7_keeperPart_94, ↓wX7_keeperPart_95, ↓wX7_keeperPart_96, zQi_def, zQa_def, zQv_def, nI00, nI10, nI11, nI01, true_or, or_true, false_or, or_false, eq_self, true_implies, false_implies, not_true_eq_false, not_false_eq_true, zc9, zc1, zc2, zc3, zc1000, nI_m9, nI_add, pk_mul, ix_nI, vpT, zk_zpi, zn_zpi, zr_zpi, zk_zpa, zn_zpa, zr_zpa, zsz_zpi, zsz_zpa, zi_zpa, zpi_pa, zpa_zpa, true_and, and_true, and_self, zk_WST, zn_WST, zsz_WST, zi_WST, zi_WST0, zr_WST5, zr_WSTN, zpa_WST, zpa_WST0, zpr_WST5, zup2_eq, zup2_ne, zup_eq, zup_ne, q22, q23, q24, q25, q26, q27, zAk26, wk, wr7, wr8, wr9, wr10, wr11, wk1, wk2, wk3, wk4, wk5, wn1, wn2, wn3, wn4, wn5, wRr, wRk, wR5, wRs, wRn, wSr, wSk, wKr, wKk, wTk]
    simp only [eq_true hi, true_and, inN_def] at hq
    refine ⟨fun ho => ?_, fun ho => ?_, fun ho => ?_, fun ho => ?_, fun ho => ?_, fun ho => ?_, fun ho => ?_, fun ho => ?_⟩
    · (repeat (first | rw [if_pos (by omega)] at hq | rw [if_neg (by omega)] at hq))
      exact hq
    all_goals
      (repeat (first | rw [if_pos (by omega)] at hq | rw [if_neg (by omega)] at hq))
      first
      | (rw [show x = nI 0 from i32k (by omega) ho, ixx_nI (by omega), ixx_nI (by omega)] at hq; rw [hK a ha 0 (by omega)]; exact hq)
      | (rw [show x = nI 1 from i32k (by omega) ho, ixx_nI (by omega), ixx_nI (by omega)] at hq; rw [hK a ha 1 (by omega)]; exact hq)
      | (rw [show x = nI 2 from i32k (by omega) ho, ixx_nI (by omega), ixx_nI (by omega)] at hq; rw [hK a ha 2 (by omega)]; exact hq)
      | (rw [show x = nI 3 from i32k (by omega) ho, ixx_nI (by omega), ixx_nI (by omega)] at hq; rw [hK a ha 3 (by omega)]; exact hq)
      | (rw [show x = nI 4 from i32k (by omega) ho, ixx_nI (by omega), ixx_nI (by omega)] at hq; rw [hK a ha 4 (by omega)]; exact hq)
      | (rw [show x = nI 5 from i32k (by omega) ho, ixx_nI (by omega), ixx_nI (by omega)] at hq; rw [hK a ha 5 (by omega)]; exact hq)
      | (rw [show x = nI 6 from i32k (by omega) ho, ixx_nI (by omega), ixx_nI (by omega)] at hq; rw [hK a ha 6 (by omega)]; exact hq)
  · rw [zb_f hi]
    try simp (disch := omega) only [↓wX7_keeperPart_0, ↓wX7_keeperPart_1, ↓wX7_keeperPart_2, ↓wX7_keeperPart_5, ↓wX7_keeperPart_8, ↓wX7_keeperPart_9, ↓wX7_keeperPart_10, ↓wX7_keeperPart_11, ↓wX7_keeperPart_14, ↓wX7_keeperPart_15, ↓wX7_keeperPart_16, ↓wX7_keeperPart_17, ↓wX7_keeperPart_18, ↓wX7_keeperPart_60, ↓wX7_keeperPart_61, ↓wX7_keeperPart_64, ↓wX7_keeperPart_65, ↓wX7_keeperPart_66, ↓wX7_keeperPart_69, ↓wX7_keeperPart_70, ↓wX7_keeperPart_71, ↓wX7_keeperPart_74, ↓wX7_keeperPart_75, ↓wX7_keeperPart_76, ↓wX7_keeperPart_79, ↓wX7_keeperPart_80, ↓wX7_keeperPart_81, ↓wX7_keeperPart_84, ↓wX7_keeperPart_85, ↓wX7_keeperPart_86, ↓wX7_keeperPart_89, ↓wX7_keeperPart_90, ↓wX7_keeperPart_91, ↓wX7_keeperPart_94, ↓wX7_keeperPart_95, ↓wX7_keeperPart_96, zQi_def, zQa_def, zQv_def, nI00, nI10, nI11, nI01, true_or, or_true, false_or, or_false, eq_self, true_implies, false_implies, not_true_eq_false, not_false_eq_true, zc9, zc1, zc2, zc3, zc1000, nI_m9, nI_add, pk_mul, ix_nI, vpT, zk_zpi, zn_zpi, zr_zpi, zk_zpa, zn_zpa, zr_zpa, zsz_zpi, zsz_zpa, zi_zpa, zpi_pa, zpa_zpa, true_and, and_true, and_self, zk_WST, zn_WST, zsz_WST, zi_WST, zi_WST0, zr_WST5, zr_WSTN, zpa_WST, zpa_WST0, zpr_WST5, zup2_eq, zup2_ne, zup_eq, zup_ne, q22, q23, q24, q25, q26, q27, zAk26, wk, wr7, wr8, wr9, wr10, wr11, wk1, wk2, wk3, wk4, wk5, wn1, wn2, wn3, wn4, wn5, wRr, wRk, wR5, wRs, wRn, wSr, wSk, wKr, wKk, wTk]
    rw [if_neg (fun q => hi q.1)] at hq
    exact hq
theorem v_turnPart {E : zE} {Q : Int32 → zH → Prop} {w nr nk n td : Nat} {i x : Int32} {h : zH} {G : Nat → Nat → Int32} {p : Nat → Nat} {r : Nat → Int32} (hw : WS h w) (hR : CR G p r nr nk n td) (hq : Q (qTur r n i x) (WST h w G p)) : zMi E mX7_turnPart [.inr w, .inl i, .inl x] (WST h w G p) Q := by
  obtain ⟨wk, ⟨wr7, wr8, wr9, wr10, wr11⟩, ⟨wk1, wk2, wk3, wk4, wk5⟩, ⟨wn1, wn2, wn3, wn4, wn5⟩, ⟨wRr, wRk, wR5, wRs, wRn⟩, ⟨wSr, wSk⟩, ⟨wKr, wKk⟩, wTk⟩ := id hw
  obtain ⟨hI, hX, hA, ⟨hB1, hB2⟩, ⟨h3, hRd, hSt, hFr, hLd⟩, ⟨hK, hKf⟩, hTu, hP⟩ := id hR
  obtain ⟨i1, i2, i3, i0, hb, hTW, hKP⟩ := id hI
  obtain ⟨a0, a1, a2, a3, a4, a5, a6⟩ := id hA
  have g6 : G 0 6 = nI n := a6.trans i3
  unfold qTur at hq
  (refine eX7_turnPart 200 ?_; simp (disch := omega) only [↓wX7_turnPart_0, ↓wX7_turnPart_1, ↓wX7_turnPart_2, ↓wX7_turnPart_5, ↓wX7_turnPart_8, ↓wX7_turnPart_9, ↓wX7_turnPart_10, ↓wX7_turnPart_11, ↓wX7_turnPart_14, ↓wX7_turnPart_15, ↓wX7_turnPart_16, ↓wX7_turnPart_17, ↓wX7_turnPart_18, ↓wX7_turnPart_60, ↓wX7_turnPart_61, ↓wX7_turnPart_64, ↓wX7_turnPart_65, ↓wX7_turnPart_66, ↓wX7_turnPart_69, ↓wX7_turnPart_70, ↓wX7_turnPart_71, ↓wX7_turnPart_74, ↓wX7_turnPart_75, ↓wX7_turnPart_76, ↓wX7_turnPart_79, ↓wX7_turnPart_80, ↓wX7_turnPart_81, ↓wX7_turnPart_84, ↓wX7_turnPart_85, ↓wX7_turnPart_86, ↓wX7_turnPart_89, ↓wX7_turnPart_90, ↓wX7_turnPart_91, ↓wX7_turnPart_94, ↓wX7_turnPart_95, ↓wX7_turnPart_96, zQi_def, zQa_def, zQv_def, nI00, nI10, nI11, nI01, true_or, or_true, false_or, or_false, eq_self, true_implies, false_implies, not_true_eq_false, not_false_eq_true, zc9, zc1, zc2, zc3, zc1000, nI_m9, nI_add, pk_mul, ix_nI, vpT, zk_zpi, zn_zpi, zr_zpi, zk_zpa, zn_zpa, zr_zpa, zsz_zpi, zsz_zpa, zi_zpa, zpi_pa, zpa_zpa, true_and, and_true, and_self, zk_WST, zn_WST, zsz_WST, zi_WST, zi_WST0, zr_WST5, zr_WSTN, zpa_WST, zpa_WST0, zpr_WST5, zup2_eq, zup2_ne, zup_eq, zup_ne, q22, q23, q24, q25, q26, q27, zAk26, wk, wr7, wr8, wr9, wr10, wr11, wk1, wk2, wk3, wk4, wk5, wn1, wn2, wn3, wn4, wn5, wRr, wRk, wR5, wRs, wRn, wSr, wSk, wKr, wKk, wTk])
  refine v_hasTurn hw (by omega) g6 ?_
  by_cases hi : inN i n
  · obtain ⟨a, ha, rfl⟩ := (inN_iff (by omega)).mp hi
    have hpa := hP.1 a (by omega)
    have hTa := (hTu a ha).1
    rw [zb_t hi]
    try simp (disch := omega) only [↓wX7_turnPart_0, ↓wX7_turnPart_1, ↓wX7_turnPart_2, ↓wX7_turnPart_5, ↓wX7_turnPart_8, ↓wX7_turnPart_9, ↓wX7_turnPart_10, ↓wX7_turnPart_11, ↓wX7_turnPart_14, ↓wX7_turnPart_15, ↓wX7_turnPart_16, ↓wX7_turnPart_17, ↓wX7_turnPart_18, ↓wX7_turnPart_60, ↓wX7_turnPart_61, ↓wX7_turnPart_64, ↓wX7_turnPart_65, ↓wX7_turnPart_66, ↓wX7_turnPart_69, ↓wX7_turnPart_70, ↓wX7_turnPart_71, ↓wX7_turnPart_74, ↓wX7_turnPart_75, ↓wX7_turnPart_76, ↓wX7_turnPart_79, ↓wX7_turnPart_80, ↓wX7_turnPart_81, ↓wX7_turnPart_84, ↓wX7_turnPart_85, ↓wX7_turnPart_86, ↓wX7_turnPart_89, ↓wX7_turnPart_90, ↓wX7_turnPart_91, ↓wX7_turnPart_94, ↓wX7_turnPart_95, ↓wX7_turnPart_96, zQi_def, zQa_def, zQv_def, nI00, nI10, nI11, nI01, true_or, or_true, false_or, or_false, eq_self, true_implies, false_implies, not_true_eq_false, not_false_eq_true, zc9, zc1, zc2, zc3, zc1000, nI_m9, nI_add, pk_mul, ix_nI, vpT, zk_zpi, zn_zpi, zr_zpi, zk_zpa, zn_zpa, zr_zpa, zsz_zpi, zsz_zpa, zi_zpa, zpi_pa, zpa_zpa, true_and, and_true, and_self, zk_WST, zn_WST, zsz_WST, zi_WST, zi_WST0, zr_WST5, zr_WSTN, zpa_WST, zpa_WST0, zpr_WST5, zup2_eq, zup2_ne, zup_eq, zup_ne, q22, q23, q24, q25, q26, q27, zAk26, wk, wr7, wr8, wr9, wr10, wr11, wk1, wk2, wk3, wk4, wk5, wn1, wn2, wn3, wn4, wn5, wRr, wRk, wR5, wRs, wRn, wSr, wSk, wKr, wKk, wTk]
    simp only [eq_true hi, true_and, inN_def] at hq
    refine ⟨fun ho => ?_, fun ho => ?_, fun ho => ?_, fun ho => ?_, fun ho => ?_, fun ho => ?_, fun ho => ?_, fun ho => ?_⟩
    · (repeat (first | rw [if_pos (by omega)] at hq | rw [if_neg (by omega)] at hq))
      exact hq
    all_goals
      (repeat (first | rw [if_pos (by omega)] at hq | rw [if_neg (by omega)] at hq))
      first
      | (rw [show x = nI 0 from i32k (by omega) ho, ixx_nI (by omega), ixx_nI (by omega)] at hq; rw [hTa 0 (by omega)]; exact hq)
      | (rw [show x = nI 1 from i32k (by omega) ho, ixx_nI (by omega), ixx_nI (by omega)] at hq; rw [hTa 1 (by omega)]; exact hq)
      | (rw [show x = nI 2 from i32k (by omega) ho, ixx_nI (by omega), ixx_nI (by omega)] at hq; rw [hTa 2 (by omega)]; exact hq)
      | (rw [show x = nI 3 from i32k (by omega) ho, ixx_nI (by omega), ixx_nI (by omega)] at hq; rw [hTa 3 (by omega)]; exact hq)
      | (rw [show x = nI 4 from i32k (by omega) ho, ixx_nI (by omega), ixx_nI (by omega)] at hq; rw [hTa 4 (by omega)]; exact hq)
      | (rw [show x = nI 5 from i32k (by omega) ho, ixx_nI (by omega), ixx_nI (by omega)] at hq; rw [hTa 5 (by omega)]; exact hq)
      | (rw [show x = nI 6 from i32k (by omega) ho, ixx_nI (by omega), ixx_nI (by omega)] at hq; rw [hTa 6 (by omega)]; exact hq)
  · rw [zb_f hi]
    try simp (disch := omega) only [↓wX7_turnPart_0, ↓wX7_turnPart_1, ↓wX7_turnPart_2, ↓wX7_turnPart_5, ↓wX7_turnPart_8, ↓wX7_turnPart_9, ↓wX7_turnPart_10, ↓wX7_turnPart_11, ↓wX7_turnPart_14, ↓wX7_turnPart_15, ↓wX7_turnPart_16, ↓wX7_turnPart_17, ↓wX7_turnPart_18, ↓wX7_turnPart_60, ↓wX7_turnPart_61, ↓wX7_turnPart_64, ↓wX7_turnPart_65, ↓wX7_turnPart_66, ↓wX7_turnPart_69, ↓wX7_turnPart_70, ↓wX7_turnPart_71, ↓wX7_turnPart_74, ↓wX7_turnPart_75, ↓wX7_turnPart_76, ↓wX7_turnPart_79, ↓wX7_turnPart_80, ↓wX7_turnPart_81, ↓wX7_turnPart_84, ↓wX7_turnPart_85, ↓wX7_turnPart_86, ↓wX7_turnPart_89, ↓wX7_turnPart_90, ↓wX7_turnPart_91, ↓wX7_turnPart_94, ↓wX7_turnPart_95, ↓wX7_turnPart_96, zQi_def, zQa_def, zQv_def, nI00, nI10, nI11, nI01, true_or, or_true, false_or, or_false, eq_self, true_implies, false_implies, not_true_eq_false, not_false_eq_true, zc9, zc1, zc2, zc3, zc1000, nI_m9, nI_add, pk_mul, ix_nI, vpT, zk_zpi, zn_zpi, zr_zpi, zk_zpa, zn_zpa, zr_zpa, zsz_zpi, zsz_zpa, zi_zpa, zpi_pa, zpa_zpa, true_and, and_true, and_self, zk_WST, zn_WST, zsz_WST, zi_WST, zi_WST0, zr_WST5, zr_WSTN, zpa_WST, zpa_WST0, zpr_WST5, zup2_eq, zup2_ne, zup_eq, zup_ne, q22, q23, q24, q25, q26, q27, zAk26, wk, wr7, wr8, wr9, wr10, wr11, wk1, wk2, wk3, wk4, wk5, wn1, wn2, wn3, wn4, wn5, wRr, wRk, wR5, wRs, wRn, wSr, wSk, wKr, wKk, wTk]
    rw [if_neg (fun q => hi q.1)] at hq
    exact hq

