/-! The class: snapshots and undo. -/
theorem tkF_lo {f : Nat → Int32} {j k : Nat} (hk : k < 433) : tkF f j k = f k := by unfold tkF; rw [pk_cpy_out (by omega), zup_ne (by omega)]
theorem tkF_fl {f : Nat → Int32} {j : Nat} : tkF f j (433 + 434 * j) = nI 1 := by unfold tkF; rw [pk_cpy_out (by omega), zup_eq rfl]
theorem tkF_in {f : Nat → Int32} {j k : Nat} (hk : k < 433) : tkF f j (433 + 434 * j + 1 + k) = f k := by
  unfold tkF; rw [pk_cpy_in (by omega) (by omega), show 0 + (433 + 434 * j + 1 + k - (433 + 434 * j + 1)) = k by omega]
theorem tkF_ot {f : Nat → Int32} {j k : Nat} (h : k < 433 + 434 * j ∨ 433 + 434 * j + 434 ≤ k) : tkF f j k = f k := by unfold tkF; rw [pk_cpy_out (by omega), zup_ne (by omega)]
theorem v_retSnap {E : zE} {Q : Int32 → zH → Prop} {x : Nat} {a : Int32} {h : zH} {r : Nat → Int32} (hX : XS h x) (hR : SR h (x + 348) (x + 1) r) (hq : ACTW Q h (x + 1 + 1) (oRes r a)) : zMi E mX3_returnToSnapshot [.inr (x + 1), .inl a] h Q := by
  obtain ⟨-, -, -, hS, -, -, hz⟩ := id hX
  obtain ⟨s1, s2, s3, s4, s5, s6⟩ := id hS
  unfold oRes at hq
  (refine eX3_returnToSnapshot 200 ?_; simp (disch := omega) only [↓wX3_returnToSnapshot_0, ↓wX3_returnToSnapshot_1, ↓wX3_returnToSnapshot_2, ↓wX3_returnToSnapshot_3, ↓wX3_returnToSnapshot_6, ↓wX3_returnToSnapshot_9, ↓wX3_returnToSnapshot_10, ↓wX3_returnToSnapshot_11, ↓wX3_returnToSnapshot_12, ↓wX3_returnToSnapshot_15, ↓wX3_returnToSnapshot_16, ↓wX3_returnToSnapshot_17, ↓wX3_returnToSnapshot_18, ↓wX3_returnToSnapshot_19, ↓wX3_returnToSnapshot_22, ↓wX3_returnToSnapshot_24, ↓wX3_returnToSnapshot_25, ↓wX3_returnToSnapshot_26, ↓wX3_returnToSnapshot_29, ↓wX3_returnToSnapshot_30, ↓wX3_returnToSnapshot_33, ↓wX3_returnToSnapshot_34, ↓wX3_returnToSnapshot_37, ↓wX3_returnToSnapshot_40, zQi_def, zQa_def, zQv_def, nI00, nI10, nI11, nI01, true_or, or_true, false_or, or_false, eq_self, true_implies, false_implies, not_true_eq_false, not_false_eq_true, zc9, zc1, zc2, zc3, zc1000, nI_m9, nI_add, pk_mul, ix_nI, vpT, zk_zpi, zn_zpi, zr_zpi, zk_zpa, zn_zpa, zr_zpa, zsz_zpi, zsz_zpa, zi_zpa, zpi_pa, zpa_zpa, true_and, and_true, and_self])
  refine v_within ?_
  by_cases ha : inN a 2
  · obtain ⟨j, hj, rfl⟩ := (inN_iff (by omega)).mp ha
    rw [if_pos ha, ixx_nI (by omega)] at hq
    rw [zb_in0 (by omega), zb_t ha]
    simp (disch := omega) only [↓wX3_returnToSnapshot_0, ↓wX3_returnToSnapshot_1, ↓wX3_returnToSnapshot_2, ↓wX3_returnToSnapshot_3, ↓wX3_returnToSnapshot_6, ↓wX3_returnToSnapshot_9, ↓wX3_returnToSnapshot_10, ↓wX3_returnToSnapshot_11, ↓wX3_returnToSnapshot_12, ↓wX3_returnToSnapshot_15, ↓wX3_returnToSnapshot_16, ↓wX3_returnToSnapshot_17, ↓wX3_returnToSnapshot_18, ↓wX3_returnToSnapshot_19, ↓wX3_returnToSnapshot_22, ↓wX3_returnToSnapshot_24, ↓wX3_returnToSnapshot_25, ↓wX3_returnToSnapshot_26, ↓wX3_returnToSnapshot_29, ↓wX3_returnToSnapshot_30, ↓wX3_returnToSnapshot_33, ↓wX3_returnToSnapshot_34, ↓wX3_returnToSnapshot_37, ↓wX3_returnToSnapshot_40, zQi_def, zQa_def, zQv_def, nI00, nI10, nI11, nI01, true_or, or_true, false_or, or_false, eq_self, true_implies, false_implies, not_true_eq_false, not_false_eq_true, zc9, zc1, zc2, zc3, zc1000, nI_m9, nI_add, pk_mul, ix_nI, vpT, zk_zpi, zn_zpi, zr_zpi, zk_zpa, zn_zpa, zr_zpa, zsz_zpi, zsz_zpa, zi_zpa, zpi_pa, zpa_zpa, true_and, and_true, and_self, s1, s3, s4, s5, q27]
    rcases hR.2 j hj with ⟨q1, q2⟩ | ⟨q1, q2, q3, q4⟩
    · rw [if_pos (show r (433 + 434 * j) = 0 from q2)] at hq
      simp only [q1, nI00, nI10, nI11, nI01, true_or, or_true, false_or, or_false, eq_self, true_implies, false_implies, not_true_eq_false, not_false_eq_true, zc9, zc1, zc2, zc3, zc1000, nI_m9, nI_add, pk_mul, ix_nI, vpT, zk_zpi, zn_zpi, zr_zpi, zk_zpa, zn_zpa, zr_zpa, zsz_zpi, zsz_zpa, zi_zpa, zpi_pa, zpa_zpa, true_and, and_true, and_self]
      exact hq n2
    · have hne : ¬ zr h (x + 1 + 42) j = 0 := by omega
      rw [if_neg (show ¬ r (433 + 434 * j) = 0 by rw [q1]; decide)] at hq
      obtain ⟨hw, p, hP, hp⟩ := id s6
      obtain ⟨nr, nk, n, td, hx2, pv, hpv, hRv⟩ := id q4
      have e := WST_self hp
      have w1 := hw.1
      simp (disch := omega) only [hne, nI00, nI10, nI11, nI01, true_or, or_true, false_or, or_false, eq_self, true_implies, false_implies, not_true_eq_false, not_false_eq_true, zc9, zc1, zc2, zc3, zc1000, nI_m9, nI_add, pk_mul, ix_nI, vpT, zk_zpi, zn_zpi, zr_zpi, zk_zpa, zn_zpa, zr_zpa, zsz_zpi, zsz_zpa, zi_zpa, zpi_pa, zpa_zpa, true_and, and_true, and_self, s1, s2, w1]
      have key := v_copy7 (E := E) (h := h) (w := x + 1 + 1) (v := zr h (x + 1 + 42) j) (G := fun j => zi h (x + 1 + 1 + j)) (p := p) (pv := pv) hw hx2 (by omega) hP (fun k hk => ⟨hRv.2.2.2.2.2.2.2.1 k hk, hpv k hk⟩) (Q := fun h => zk h (x + 1) = 4 ∧ zk h (zr h (x + 1) 0) = 8 ∧ Q (zi h (zr h (x + 1) 0) 0) h) ?_
      · rw [e] at key; exact key
      intro G' hC
      have hO := OUT_WST h (x + 1 + 1) G' p
      have hCR := CR_copy hC hP hRv
      refine ⟨s1, ?_, ?_⟩
      · rw [zr_WSTN _ _ _ (by omega), s2]; exact w1
      · rw [zr_WSTN _ _ _ (by omega), s2, zi_WST0, hCR.2.2.1.1]
        have h0 : (fun k => r (433 + 434 * j + 1 + k)) 0 = nI td := hCR.1.2.2.2.1
        have htd := hCR.1.2.2.2.2.1.1
        have h0' : r (433 + 434 * j + 1) = nI td := h0
        refine hq (by rw [h0']; exact nI_nn (by omega)) _ rfl hO ⟨nr, nk, n, td, WR_WST hw (CR_r (fun k hk => ?_) hCR)⟩
        rw [pk_cpy_in (by omega) (by omega), show k - 0 = k by omega]
  · rw [if_neg ha] at hq
    rw [zb_in0 (by omega), zb_f ha]
    simp (disch := omega) only [↓wX3_returnToSnapshot_0, ↓wX3_returnToSnapshot_1, ↓wX3_returnToSnapshot_2, ↓wX3_returnToSnapshot_3, ↓wX3_returnToSnapshot_6, ↓wX3_returnToSnapshot_9, ↓wX3_returnToSnapshot_10, ↓wX3_returnToSnapshot_11, ↓wX3_returnToSnapshot_12, ↓wX3_returnToSnapshot_15, ↓wX3_returnToSnapshot_16, ↓wX3_returnToSnapshot_17, ↓wX3_returnToSnapshot_18, ↓wX3_returnToSnapshot_19, ↓wX3_returnToSnapshot_22, ↓wX3_returnToSnapshot_24, ↓wX3_returnToSnapshot_25, ↓wX3_returnToSnapshot_26, ↓wX3_returnToSnapshot_29, ↓wX3_returnToSnapshot_30, ↓wX3_returnToSnapshot_33, ↓wX3_returnToSnapshot_34, ↓wX3_returnToSnapshot_37, ↓wX3_returnToSnapshot_40, zQi_def, zQa_def, zQv_def, nI00, nI10, nI11, nI01, true_or, or_true, false_or, or_false, eq_self, true_implies, false_implies, not_true_eq_false, not_false_eq_true, zc9, zc1, zc2, zc3, zc1000, nI_m9, nI_add, pk_mul, ix_nI, vpT, zk_zpi, zn_zpi, zr_zpi, zk_zpa, zn_zpa, zr_zpa, zsz_zpi, zsz_zpa, zi_zpa, zpi_pa, zpa_zpa, true_and, and_true, and_self]
    exact hq n1
theorem tlRes {r : Nat → Int32} {a : Int32} : TL r (oRes r a) := by
  unfold oRes
  split
  · split
    · exact TL_n
    · exact TL_s (fun k hk => pk_cpy_out (by omega))
  · exact TL_n
theorem pb_restore {E : zE} {Q : Int32 → zH → Prop} {x s L nr nk n td : Nat} {h : zH} {F : Nat → Nat → Int32} {a : Int32} (hC : CI h x F s L) (hW : WR h (x + 1 + 1) (F 1) nr nk n td) (hq : UO Q h x F s L (oRes (F 1) a)) : zMi E mX8_restore [.inr x, .inl a] h Q := by
  obtain ⟨hX, ⟨o, hH⟩, hT⟩ := hC
  have xk := hX.1.1
  have hz := hX.2.2.2.2.2.2
  (refine eX8_restore 200 ?_; simp (disch := omega) only [↓wX8_restore_0, ↓wX8_restore_1, ↓wX8_restore_4, ↓wX8_restore_5, ↓wX8_restore_6, ↓wX8_restore_9, ↓wX8_restore_10, ↓wX8_restore_13, ↓wX8_restore_16, zQi_def, zQa_def, zQv_def, nI00, nI10, nI11, nI01, true_or, or_true, false_or, or_false, eq_self, true_implies, false_implies, not_true_eq_false, not_false_eq_true, zc9, zc1, zc2, zc3, zc1000, nI_m9, nI_add, pk_mul, ix_nI, vpT, zk_zpi, zn_zpi, zr_zpi, zk_zpa, zn_zpa, zr_zpa, zsz_zpi, zsz_zpa, zi_zpa, zpi_pa, zpa_zpa, true_and, and_true, and_self, xk])
  refine v_prepare hX hH ?_
  intro h1 z1 o1 p1 s1
  obtain ⟨X1, H1, T1⟩ := pre_keep hX hH hT o1 p1
  obtain ⟨⟨a1, a2, a3, a4, a5⟩, -⟩ := id X1
  obtain ⟨b1, b2, b3⟩ := SP_w X1.2.2.2.1
  try simp (disch := omega) only [↓wX8_restore_0, ↓wX8_restore_1, ↓wX8_restore_4, ↓wX8_restore_5, ↓wX8_restore_6, ↓wX8_restore_9, ↓wX8_restore_10, ↓wX8_restore_13, ↓wX8_restore_16, zQi_def, zQa_def, zQv_def, nI00, nI10, nI11, nI01, true_or, or_true, false_or, or_false, eq_self, true_implies, false_implies, not_true_eq_false, not_false_eq_true, zc9, zc1, zc2, zc3, zc1000, nI_m9, nI_add, pk_mul, ix_nI, vpT, zk_zpi, zn_zpi, zr_zpi, zk_zpa, zn_zpa, zr_zpa, zsz_zpi, zsz_zpa, zi_zpa, zpi_pa, zpa_zpa, true_and, and_true, and_self, a1, a2, b1, b2, b3]
  refine v_retSnap X1 H1.2.2.2.2.1 ?_
  exact act_fin X1 H1 T1 s1 (OUT_mono o1 (by unfold spA; omega) (by unfold spA; omega)) tlRes hq
theorem pb_undo {E : zE} {Q : Int32 → zH → Prop} {x s L : Nat} {h : zH} {F : Nat → Nat → Int32} (hC : CI h x F s L) (hq0 : s = 0 → Q (-2) h) (hq1 : ∀ s', s = s' + 1 → ∀ h', OUT h h' x (x + 348) → CI' h' x (va_cpy (F 4) (F 1) (1301 * s') 0 1301) (F 4) (F 5) s' L → Q (nI s') h') : zMi E mX8_undo [.inr x] h Q := by
  obtain ⟨hX, ⟨o, hH⟩, hT⟩ := hC
  have hz := hX.2.2.2.2.2.2
  obtain ⟨⟨a1, a2, a3, a4, a5⟩, ⟨c1, c2, c3, c4, c5⟩, -, hS1, hS2, -⟩ := id hX
  obtain ⟨ho, ho6, hs, hs5, hR, hRs⟩ := id hH
  by_cases e : s = 0
  · (refine eX8_undo 200 ?_; simp (disch := omega) only [↓wX8_undo_0, ↓wX8_undo_1, ↓wX8_undo_4, ↓wX8_undo_7, ↓wX8_undo_10, ↓wX8_undo_12, ↓wX8_undo_13, ↓wX8_undo_14, ↓wX8_undo_17, ↓wX8_undo_20, ↓wX8_undo_21, ↓wX8_undo_24, ↓wX8_undo_25, ↓wX8_undo_28, ↓wX8_undo_31, ↓wX8_undo_34, ↓wX8_undo_35, ↓wX8_undo_38, ↓wX8_undo_41, zQi_def, zQa_def, zQv_def, nI00, nI10, nI11, nI01, true_or, or_true, false_or, or_false, eq_self, true_implies, false_implies, not_true_eq_false, not_false_eq_true, zc9, zc1, zc2, zc3, zc1000, nI_m9, nI_add, pk_mul, ix_nI, vpT, zk_zpi, zn_zpi, zr_zpi, zk_zpa, zn_zpa, zr_zpa, zsz_zpi, zsz_zpa, zi_zpa, zpi_pa, zpa_zpa, true_and, and_true, and_self, a1, a3, c1, hs, nI_eq0, e])
    exact hq0 e
  · obtain ⟨s', rfl⟩ : ∃ s', s = s' + 1 := ⟨s - 1, by omega⟩
    have e1 : ¬ nI (s' + 1) = 0 := by rw [nI_eq0 (by omega)]; omega
    (refine eX8_undo 200 ?_; simp (disch := omega) only [↓wX8_undo_0, ↓wX8_undo_1, ↓wX8_undo_4, ↓wX8_undo_7, ↓wX8_undo_10, ↓wX8_undo_12, ↓wX8_undo_13, ↓wX8_undo_14, ↓wX8_undo_17, ↓wX8_undo_20, ↓wX8_undo_21, ↓wX8_undo_24, ↓wX8_undo_25, ↓wX8_undo_28, ↓wX8_undo_31, ↓wX8_undo_34, ↓wX8_undo_35, ↓wX8_undo_38, ↓wX8_undo_41, zQi_def, zQa_def, zQv_def, nI00, nI10, nI11, nI01, true_or, or_true, false_or, or_false, eq_self, true_implies, false_implies, not_true_eq_false, not_false_eq_true, zc9, zc1, zc2, zc3, zc1000, nI_m9, nI_add, pk_mul, ix_nI, vpT, zk_zpi, zn_zpi, zr_zpi, zk_zpa, zn_zpa, zr_zpa, zsz_zpi, zsz_zpa, zi_zpa, zpi_pa, zpa_zpa, true_and, and_true, and_self, a1, a3, c1, hs, e1])
    refine eX0_makeLatestSpare 200 ?_
    simp (disch := omega) only [↓wX0_makeLatestSpare_0, ↓wX0_makeLatestSpare_1, ↓wX0_makeLatestSpare_2, ↓wX0_makeLatestSpare_5, ↓wX0_makeLatestSpare_6, ↓wX0_makeLatestSpare_7, ↓wX0_makeLatestSpare_10, zQi_def, zQa_def, zQv_def, nI00, nI10, nI11, nI01, true_or, or_true, false_or, or_false, eq_self, true_implies, false_implies, not_true_eq_false, not_false_eq_true, zc9, zc1, zc2, zc3, zc1000, nI_m9, nI_add, pk_mul, ix_nI, vpT, zk_zpi, zn_zpi, zr_zpi, zk_zpa, zn_zpa, zr_zpa, zsz_zpi, zsz_zpa, zi_zpa, zpi_pa, zpa_zpa, true_and, and_true, and_self, c1, hs, pk_sub, Nat.add_sub_cancel, a1, a2, a3, zk_zpa, zr_zpa]
    generalize hh1 : zpa h (x + 44) (zup (zi h (x + 44)) 2 (nI s')) = h1
    have hO1 : OUT h h1 (x + 44) (x + 45) := by rw [← hh1]; exact OUT_zpa h (x + 44) _
    have X1 : XS h1 x := by rw [← hh1]; exact XS_i hX (Or.inl rfl)
    have ho1 : zi h1 (x + 44) 1 = nI o := by rw [← hh1, zi_zpa, zup_ne (by omega)]; exact ho
    have hs1 : zi h1 (x + 44) 2 = nI s' := by rw [← hh1, zi_zpa, zup_eq rfl]
    obtain ⟨⟨a1', a2', a3', a4', a5'⟩, ⟨c1', c2', c3', c4', c5'⟩, -, hS1', hS2', -, hz1⟩ := id X1
    refine v_spare X1 ho1 ho6 hs1 (by omega) ?_
    have k4 := hS1'.1
    simp (disch := omega) only [↓wX8_undo_0, ↓wX8_undo_1, ↓wX8_undo_4, ↓wX8_undo_7, ↓wX8_undo_10, ↓wX8_undo_12, ↓wX8_undo_13, ↓wX8_undo_14, ↓wX8_undo_17, ↓wX8_undo_20, ↓wX8_undo_21, ↓wX8_undo_24, ↓wX8_undo_25, ↓wX8_undo_28, ↓wX8_undo_31, ↓wX8_undo_34, ↓wX8_undo_35, ↓wX8_undo_38, ↓wX8_undo_41, zQi_def, zQa_def, zQv_def, nI00, nI10, nI11, nI01, true_or, or_true, false_or, or_false, eq_self, true_implies, false_implies, not_true_eq_false, not_false_eq_true, zc9, zc1, zc2, zc3, zc1000, nI_m9, nI_add, pk_mul, ix_nI, vpT, zk_zpi, zn_zpi, zr_zpi, zk_zpa, zn_zpa, zr_zpa, zsz_zpi, zsz_zpa, zi_zpa, zpi_pa, zpa_zpa, true_and, and_true, and_self, k4]
    have hsv := SR_out (hRs s' (by omega)) hO1 (by omega) (by omega) (by omega)
    refine v_copy3 hS1' (hS2' _ (by omega)) (by unfold spA; omega) (by omega) (SN_8 hsv.2) ?_
    intro h2 z2 o2 p2 cc
    have X2 : XS h2 x := XS_1 X1 (OUT_mono o2 (by omega) (by omega)) p2
    have s44 := o2.2 (x + 44) (by omega) (by omega)
    have s304 := o2.2 (x + 304) (by omega) (by omega)
    have s305 := o2.2 (x + 305) (by omega) (by omega)
    obtain ⟨⟨a1'', a2'', a3'', a4'', a5''⟩, ⟨c1'', -⟩, -⟩ := id X2
    simp (disch := omega) only [↓wX8_undo_0, ↓wX8_undo_1, ↓wX8_undo_4, ↓wX8_undo_7, ↓wX8_undo_10, ↓wX8_undo_12, ↓wX8_undo_13, ↓wX8_undo_14, ↓wX8_undo_17, ↓wX8_undo_20, ↓wX8_undo_21, ↓wX8_undo_24, ↓wX8_undo_25, ↓wX8_undo_28, ↓wX8_undo_31, ↓wX8_undo_34, ↓wX8_undo_35, ↓wX8_undo_38, ↓wX8_undo_41, zQi_def, zQa_def, zQv_def, nI00, nI10, nI11, nI01, true_or, or_true, false_or, or_false, eq_self, true_implies, false_implies, not_true_eq_false, not_false_eq_true, zc9, zc1, zc2, zc3, zc1000, nI_m9, nI_add, pk_mul, ix_nI, vpT, zk_zpi, zn_zpi, zr_zpi, zk_zpa, zn_zpa, zr_zpa, zsz_zpi, zsz_zpa, zi_zpa, zpi_pa, zpa_zpa, true_and, and_true, and_self, a1'', a3'', c1'']
    rw [s44.2.2.1, hs1]
    refine hq1 s' rfl h2 (OUT_tr (OUT_mono hO1 (by omega) (by omega)) (OUT_mono o2 (by omega) (by omega))) ⟨X2, ⟨o, by rw [s44.2.2.1]; exact ho1, ho6, by rw [s44.2.2.1]; exact hs1, by omega, ?_, fun i hi => ?_⟩, ?_⟩
    · refine SR_r (fun k hk => ?_) (cc _ _ hsv (by omega))
      rw [pk_cpy_in (by omega) (by omega), show k - 0 = k by omega]
    · exact SR_out (SR_out (hRs i (by omega)) hO1 (by omega) (by omega) (by omega)) o2 (by omega) (by omega) (by omega)
    · unfold TX
      rw [s304.2.2.1, s305.2.2.1, ← hh1, zi_zpaN _ _ (by omega), zi_zpaN _ _ (by omega)]
      exact hT

