/-! The class: the other public methods. -/
theorem HI_out {h h' : zH} {x o s a b : Nat} {r sv : Nat → Int32} (hX : XS h x) (hH : HI h x o r sv s) (hO : OUT h h' a b) (ha : x + 304 ≤ a) (hb : b ≤ x + 348) : HI h' x o r sv s := by
  have hz := hX.2.2.2.2.2.2
  obtain ⟨ho, ho6, hs, hs5, hR, hRs⟩ := hH
  have s44 := hO.2 (x + 44) (by omega) (by omega)
  exact ⟨by rw [s44.2.2.1]; exact ho, ho6, by rw [s44.2.2.1]; exact hs, hs5, SR_out hR hO (by omega) (by omega) (by omega), fun i hi => SR_out (hRs i hi) hO (by omega) (by omega) (by omega)⟩
theorem ch_id : ∀ j, j < 256 → ((nI j).toUInt32 % 65536).toInt32 = nI j ∧ vp_nar .char (nI j) = nI j := by decide +kernel
theorem in1255 {x : Int32} (h : nI 1 ≤ x ∧ x ≤ nI 255) : ∃ j, 1 ≤ j ∧ j < 256 ∧ x = nI j := by
  obtain ⟨h1, h2⟩ := h
  rw [i32le, nIn (by omega)] at h1 h2
  obtain ⟨j, hj, e⟩ := i32of (x := x) (n := 255) (by omega) (by omega) (by omega)
  rw [e, nIn (by omega)] at h1
  exact ⟨j, by omega, by omega, e⟩
theorem v_snapCount {E : zE} {Q : Int32 → zH → Prop} {B st : Nat} {h : zH} {r : Nat → Int32} (hP : SP h st) (hS : SN h B st r) (hB : 0 < B) (hq : Q (r 433 + r 867) h) : zMi E mX3_snapshotCount [.inr st] h Q := by
  obtain ⟨s1, s2, s3, s4, s5, -⟩ := hP
  have u1 : ¬ 2 ≤ 0 := by omega
  have u2 : ¬ 2 ≤ 1 := by omega
  have h0 := hS 0 (by omega)
  have h1 := hS 1 (by omega)
  (refine eX3_snapshotCount 200 ?_; simp (disch := omega) only [↓wX3_snapshotCount_0, ↓wX3_snapshotCount_1, ↓wX3_snapshotCount_2, ↓wX3_snapshotCount_3, ↓wX3_snapshotCount_4, ↓wX3_snapshotCount_5, ↓wX3_snapshotCount_6, ↓wX3_snapshotCount_9, ↓wX3_snapshotCount_10, ↓wX3_snapshotCount_13, ↓wX3_snapshotCount_14, ↓wX3_snapshotCount_15, ↓wX3_snapshotCount_18, ↓wX3_snapshotCount_21, ↓wX3_snapshotCount_24, ↓wX3_snapshotCount_27, ↓wX3_snapshotCount_28, zQi_def, zQa_def, zQv_def, nI00, nI10, nI11, nI01, true_or, or_true, false_or, or_false, eq_self, true_implies, false_implies, not_true_eq_false, not_false_eq_true, zc9, zc1, zc2, zc3, zc1000, nI_m9, nI_add, pk_mul, ix_nI, vpT, zk_zpi, zn_zpi, zr_zpi, zk_zpa, zn_zpa, zr_zpa, zsz_zpi, zsz_zpa, zi_zpa, zpi_pa, zpa_zpa, true_and, and_true, and_self])
  have k0 : (zr h (st + 42) 0 = 0 ∧ r 433 = nI 0) ∨ (¬ zr h (st + 42) 0 = 0 ∧ r 433 = nI 1) := h0.imp id (fun q => ⟨by omega, q.1⟩)
  have k1 : (zr h (st + 42) 1 = 0 ∧ r 867 = nI 0) ∨ (¬ zr h (st + 42) 1 = 0 ∧ r 867 = nI 1) := h1.imp id (fun q => ⟨by omega, q.1⟩)
  rcases k0 with ⟨e0, f0⟩ | ⟨e0, f0⟩ <;> rcases k1 with ⟨e1, f1⟩ | ⟨e1, f1⟩ <;> rw [f0, f1, nI_add] at hq
  all_goals
    refine jX3_snapshotCount 200 ?_
    simp (disch := omega) only [↓wX3_snapshotCount_0, ↓wX3_snapshotCount_1, ↓wX3_snapshotCount_2, ↓wX3_snapshotCount_3, ↓wX3_snapshotCount_4, ↓wX3_snapshotCount_5, ↓wX3_snapshotCount_6, ↓wX3_snapshotCount_9, ↓wX3_snapshotCount_10, ↓wX3_snapshotCount_13, ↓wX3_snapshotCount_14, ↓wX3_snapshotCount_15, ↓wX3_snapshotCount_18, ↓wX3_snapshotCount_21, ↓wX3_snapshotCount_24, ↓wX3_snapshotCount_27, ↓wX3_snapshotCount_28, zQi_def, zQa_def, zQv_def, nI00, nI10, nI11, nI01, true_or, or_true, false_or, or_false, eq_self, true_implies, false_implies, not_true_eq_false, not_false_eq_true, zc9, zc1, zc2, zc3, zc1000, nI_m9, nI_add, pk_mul, ix_nI, vpT, zk_zpi, zn_zpi, zr_zpi, zk_zpa, zn_zpa, zr_zpa, zsz_zpi, zsz_zpa, zi_zpa, zpi_pa, zpa_zpa, true_and, and_true, and_self, nI_leI, u1, s1, s3, s4, s5, q27, e0]
    refine jX3_snapshotCount 200 ?_
    simp (disch := omega) only [↓wX3_snapshotCount_0, ↓wX3_snapshotCount_1, ↓wX3_snapshotCount_2, ↓wX3_snapshotCount_3, ↓wX3_snapshotCount_4, ↓wX3_snapshotCount_5, ↓wX3_snapshotCount_6, ↓wX3_snapshotCount_9, ↓wX3_snapshotCount_10, ↓wX3_snapshotCount_13, ↓wX3_snapshotCount_14, ↓wX3_snapshotCount_15, ↓wX3_snapshotCount_18, ↓wX3_snapshotCount_21, ↓wX3_snapshotCount_24, ↓wX3_snapshotCount_27, ↓wX3_snapshotCount_28, zQi_def, zQa_def, zQv_def, nI00, nI10, nI11, nI01, true_or, or_true, false_or, or_false, eq_self, true_implies, false_implies, not_true_eq_false, not_false_eq_true, zc9, zc1, zc2, zc3, zc1000, nI_m9, nI_add, pk_mul, ix_nI, vpT, zk_zpi, zn_zpi, zr_zpi, zk_zpa, zn_zpa, zr_zpa, zsz_zpi, zsz_zpa, zi_zpa, zpi_pa, zpa_zpa, true_and, and_true, and_self, nI_leI, u2, s1, s3, s4, s5, q27, e1]
    refine jX3_snapshotCount 200 ?_
    simp (disch := omega) only [↓wX3_snapshotCount_0, ↓wX3_snapshotCount_1, ↓wX3_snapshotCount_2, ↓wX3_snapshotCount_3, ↓wX3_snapshotCount_4, ↓wX3_snapshotCount_5, ↓wX3_snapshotCount_6, ↓wX3_snapshotCount_9, ↓wX3_snapshotCount_10, ↓wX3_snapshotCount_13, ↓wX3_snapshotCount_14, ↓wX3_snapshotCount_15, ↓wX3_snapshotCount_18, ↓wX3_snapshotCount_21, ↓wX3_snapshotCount_24, ↓wX3_snapshotCount_27, ↓wX3_snapshotCount_28, zQi_def, zQa_def, zQv_def, nI00, nI10, nI11, nI01, true_or, or_true, false_or, or_false, eq_self, true_implies, false_implies, not_true_eq_false, not_false_eq_true, zc9, zc1, zc2, zc3, zc1000, nI_m9, nI_add, pk_mul, ix_nI, vpT, zk_zpi, zn_zpi, zr_zpi, zk_zpa, zn_zpa, zr_zpa, zsz_zpi, zsz_zpa, zi_zpa, zpi_pa, zpa_zpa, true_and, and_true, and_self, nI_leI, Nat.le_refl]
    exact hq
theorem pb_count {E : zE} {Q : Int32 → zH → Prop} {x s L nr nk n td : Nat} {h : zH} {F : Nat → Nat → Int32} {a : Int32} (hC : CI h x F s L) (hW : WR h (x + 1 + 1) (F 1) nr nk n td) (hq : Q (qCnt (F 1) nk s L a) h) : zMi E mX8_count [.inr x, .inl a] h Q := by
  obtain ⟨hX, ⟨o, hH⟩, t1, t2, t3⟩ := hC
  obtain ⟨⟨a1, a2, a3, a4, a5⟩, ⟨h1, -⟩, ⟨c1, c2, c3, c4, c5, c6, c7⟩, hS, -⟩ := id hX
  obtain ⟨b1, b2, b3⟩ := SP_w hX.2.2.2.1
  obtain ⟨ho, ho6, hs, hs5, hR, -⟩ := hH
  have hA : CA (fun j => zi h (x + 1 + 1 + j)) (F 1) := by
    obtain ⟨-, p, -, hR⟩ := hW
    exact hR.2.2.1
  obtain ⟨g0, g1, g2, g3, g4, g5, g6⟩ := hA
  have g0 : zi h (x + 1 + 1) 0 = F 1 0 := g0
  have g1 : zi h (x + 1 + 1) 1 = F 1 4 := g1
  have g2 : zi h (x + 1 + 1) 2 = F 1 5 := g2
  have g3 : zi h (x + 1 + 1) 3 = F 1 6 := g3
  have g4 : zi h (x + 1 + 1) 4 = F 1 1 := g4
  have g5 : zi h (x + 1 + 1) 5 = F 1 2 := g5
  have g6 : zi h (x + 1 + 1) 6 = F 1 3 := g6
  unfold qCnt at hq
  (refine eX8_count 200 ?_; simp (disch := omega) only [↓wX8_count_0, ↓wX8_count_1, ↓wX8_count_60, ↓wX8_count_61, ↓wX8_count_64, ↓wX8_count_67, ↓wX8_count_70, ↓wX8_count_71, ↓wX8_count_72, ↓wX8_count_75, ↓wX8_count_78, ↓wX8_count_81, ↓wX8_count_82, ↓wX8_count_83, ↓wX8_count_86, ↓wX8_count_89, ↓wX8_count_92, ↓wX8_count_93, ↓wX8_count_94, ↓wX8_count_97, ↓wX8_count_100, ↓wX8_count_103, ↓wX8_count_104, ↓wX8_count_105, ↓wX8_count_108, ↓wX8_count_111, ↓wX8_count_113, ↓wX8_count_116, ↓wX8_count_117, ↓wX8_count_118, ↓wX8_count_121, ↓wX8_count_124, ↓wX8_count_127, ↓wX8_count_128, ↓wX8_count_129, ↓wX8_count_132, ↓wX8_count_135, ↓wX8_count_138, ↓wX8_count_139, ↓wX8_count_140, ↓wX8_count_143, ↓wX8_count_146, ↓wX8_count_149, ↓wX8_count_150, ↓wX8_count_151, ↓wX8_count_154, ↓wX8_count_157, ↓wX8_count_158, ↓wX8_count_159, ↓wX8_count_162, ↓wX8_count_165, ↓wX8_count_166, ↓wX8_count_167, ↓wX8_count_170, ↓wX8_count_173, ↓wX8_count_174, ↓wX8_count_175, zQi_def, zQa_def, zQv_def, nI00, nI10, nI11, nI01, true_or, or_true, false_or, or_false, eq_self, true_implies, false_implies, not_true_eq_false, not_false_eq_true, zc9, zc1, zc2, zc3, zc1000, nI_m9, nI_add, pk_mul, ix_nI, vpT, zk_zpi, zn_zpi, zr_zpi, zk_zpa, zn_zpa, zr_zpa, zsz_zpi, zsz_zpa, zi_zpa, zpi_pa, zpa_zpa, true_and, and_true, and_self, a1, a2, a3, a4, b1, b2, b3, h1, c1, g0, g1, g2, g3, g4, g5, g6, hs, t1])
  refine ⟨fun ho => ?_, fun ho => ?_, fun ho => ?_, fun ho => ?_, fun ho => ?_, fun ho => ?_, fun ho => ?_, fun ho => ?_, fun ho => ?_, fun ho => ?_, fun ho => ?_, fun ho => ?_⟩
  all_goals (repeat (first | rw [if_pos (by omega)] at hq | rw [if_neg (by omega)] at hq))
  all_goals (first | exact hq | skip)
  · refine Q_lift hW (fun G p hw hR hA => v_keepersAt hw hR.1.2.2.2.2.1.2.2.2 (hR.2.2.1.2.2.2.2.2.1.trans hR.1.2.1) (CK_1 hR.2.2.2.2.2.1.1) hA) ?_
    exact hq
  · exact v_snapCount hS hR.2 (by omega) hq
theorem CR_w {G : Nat → Nat → Int32} {p : Nat → Nat} {f w : Nat → Int32} {nr nk n td : Nat} (hR : CR G p f nr nk n td) : CR G p (wF f w n) nr nk n td := by
  obtain ⟨hI, hX, hA, ⟨hB1, hB2⟩, ⟨h3, hRd, hSt, hFr, hLd⟩, ⟨hK, hKf⟩, hTu, hP⟩ := hR
  have hb := hI.2.2.2.2.1
  obtain ⟨hX1, hX2, hX3, hX4, hX5, hX6⟩ := hX
  have e : ∀ k, k < 337 → wF f w n k = f k := fun k hk => wF_at (by omega) (fun u hu => by omega)
  have e2 : ∀ t, t < n → ∀ g, g < 7 → wF f w n (337 + 8 * t + g) = f (337 + 8 * t + g) := fun t ht g hg => wF_at (by omega) (fun u hu => by omega)
  refine ⟨RI_wF hI, ⟨?_, ?_, ?_, ?_, ?_, ?_⟩, ?_, ⟨?_, ?_⟩, ⟨?_, ?_, ?_, hFr, hLd⟩, ⟨?_, hKf⟩, ?_, hP⟩
  · intro k hk; rw [e _ (by omega)]; exact hX1 k hk
  · intro k hk; rw [e _ (by omega)]; exact hX2 k hk
  · intro i hi; rw [e _ (by omega), kO_congr (r' := f) (fun k hk => e _ (by omega))]; exact hX3 i hi
  · intro i hi s hs; rw [e _ (by omega)]; exact hX4 i hi s hs
  · intro k hk; rw [e _ (by omega), e _ (by omega), e _ (by omega)]; exact hX5 k hk
  · intro t ht; rw [e2 t ht 2 (by omega), e2 t ht 0 (by omega), e2 t ht 4 (by omega)]; exact hX6 t ht
  · unfold CA
    rw [e 0 (by omega), e 1 (by omega), e 2 (by omega), e 3 (by omega), e 4 (by omega), e 5 (by omega), e 6 (by omega)]; exact hA
  · intro k hk; rw [e _ (by omega)]; exact hB1 k hk
  · intro k hk; rw [e _ (by omega)]; exact hB2 k hk
  · intro i hi f hf; rw [e _ (by omega)]; exact h3 i hi f hf
  · intro i hi; rw [e _ (by omega)]; exact hRd i hi
  · intro i hi s hs f hf; rw [e _ (by omega)]; exact hSt i hi s hs f hf
  · intro k hk f hf; rw [e _ (by omega)]; exact hK k hk f hf
  · intro t ht; exact ⟨fun g hg => by rw [e2 t ht g hg]; exact (hTu t ht).1 g hg, (hTu t ht).2⟩
theorem wF_tag {f w : Nat → Int32} {n u : Nat} (hu : u < n) : wF f w n (337 + 8 * u + 7) = nI u := by
  unfold wF; exact tgF_in (by omega) (by omega)
/-- the forecast's world is made today's -/
theorem fc_copy {E : zE} {Q : zH → Prop} {x s L nr nk n td : Nat} {h : zH} {F : Nat → Nat → Int32} (hC : CI h x F s L) (hW : WR h (x + 1 + 1) (F 1) nr nk n td)
    (hq : ∀ (h1 : zH) (G : Nat → Nat → Int32) (p : Nat → Nat), XS h1 x → WS h1 (x + 307) → CR G p (F 1) nr nk n td → h1 = WST h (x + 307) G p → Q h1) : zMv E mX7_copyFrom [.inr (x + 307), .inr (x + 1 + 1)] h Q := by
  obtain ⟨hX, -, -⟩ := hC
  obtain ⟨-, -, -, hS1, hS2, ⟨hw, p, hP, hp⟩, hz⟩ := id hX
  obtain ⟨hx, pv, hpv, hRv⟩ := hW
  have e := WST_self hp
  have key := v_copy7 (E := E) (h := h) (G := fun j => zi h (x + 307 + j)) (p := p) (pv := pv) hw hx (by omega) hP (fun k hk => ⟨hRv.2.2.2.2.2.2.2.1 k hk, hpv k hk⟩) (Q := Q) ?_
  · rw [e] at key; exact key
  · intro G' hC
    have hO := OUT_WST h (x + 307) G' p
    refine hq _ G' p ?_ (WS_WST G' p hw) (CR_copy hC hP hRv) rfl
    exact XS_of hX hO.1 (fun c hc => ⟨rfl, rfl, zr_WSTN h G' p (by omega)⟩) (SP_tr hS1 (OUT_same hO (by omega) (by omega))) (fun i hi => SP_tr (hS2 i hi) (OUT_same hO (by omega) (by omega))) (WP_WST hw hP)
theorem fc_end {h : zH} {x s L : Nat} {F : Nat → Nat → Int32} {G : Nat → Nat → Int32} {p : Nat → Nat} (hC : CI h x F s L) (hw : WS h (x + 307)) (hP : PM p) : OUT h (WST h (x + 307) G p) x (x + 348) ∧ CI' (WST h (x + 307) G p) x (F 1) (F 4) (F 5) s L := by
  obtain ⟨hX, ⟨o, hH⟩, hT⟩ := hC
  obtain ⟨-, -, -, hS1, hS2, -, hz⟩ := id hX
  have hO := OUT_WST h (x + 307) G p
  refine ⟨OUT_mono hO (by omega) (by omega), XS_of hX hO.1 (fun c hc => ⟨rfl, rfl, zr_WSTN h G p (by omega)⟩) (SP_tr hS1 (OUT_same hO (by omega) (by omega))) (fun i hi => SP_tr (hS2 i hi) (OUT_same hO (by omega) (by omega))) (WP_WST hw hP), ⟨o, HI_out hX hH hO (by omega) (by omega)⟩, ?_⟩
  unfold TX
  rw [zi_WSTN _ _ _ (by omega), zi_WSTN _ _ _ (by omega)]
  exact hT
theorem pb_doneOn {E : zE} {Q : Int32 → zH → Prop} {x s L nr nk n td : Nat} {h : zH} {F : Nat → Nat → Int32} {a : Int32} (hC : CI h x F s L) (hW : WR h (x + 1 + 1) (F 1) nr nk n td) (hq : ∀ h', OUT h h' x (x + 348) → CI' h' x (F 1) (F 4) (F 5) s L → Q (qDon (F 1) (F 3) nr nk n td a) h') : zMi E mX8_doneOn [.inr x, .inl a] h Q := by
  obtain ⟨⟨a1, a2, a3, a4, a5⟩, -, -, -, -, ⟨hw, -⟩, -⟩ := id hC.1
  obtain ⟨b1, b2, b3⟩ := SP_w hC.1.2.2.2.1
  have w1 := hw.1
  (refine eX8_doneOn 200 ?_; simp (disch := omega) only [↓wX8_doneOn_0, ↓wX8_doneOn_1, ↓wX8_doneOn_4, ↓wX8_doneOn_5, ↓wX8_doneOn_8, ↓wX8_doneOn_11, ↓wX8_doneOn_14, ↓wX8_doneOn_15, ↓wX8_doneOn_18, ↓wX8_doneOn_19, ↓wX8_doneOn_22, zQi_def, zQa_def, zQv_def, nI00, nI10, nI11, nI01, true_or, or_true, false_or, or_false, eq_self, true_implies, false_implies, not_true_eq_false, not_false_eq_true, zc9, zc1, zc2, zc3, zc1000, nI_m9, nI_add, pk_mul, ix_nI, vpT, zk_zpi, zn_zpi, zr_zpi, zk_zpa, zn_zpa, zr_zpa, zsz_zpi, zsz_zpa, zi_zpa, zpi_pa, zpa_zpa, true_and, and_true, and_self, a1, a2, a5, b1, b2, b3, w1])
  refine fc_copy hC hW ?_
  intro h1 G p X1 hw1 hR e1
  obtain ⟨⟨a1', a2', a3', a4', a5'⟩, -⟩ := id X1
  have w1' := hw1.1
  simp (disch := omega) only [↓wX8_doneOn_0, ↓wX8_doneOn_1, ↓wX8_doneOn_4, ↓wX8_doneOn_5, ↓wX8_doneOn_8, ↓wX8_doneOn_11, ↓wX8_doneOn_14, ↓wX8_doneOn_15, ↓wX8_doneOn_18, ↓wX8_doneOn_19, ↓wX8_doneOn_22, zQi_def, zQa_def, zQv_def, nI00, nI10, nI11, nI01, true_or, or_true, false_or, or_false, eq_self, true_implies, false_implies, not_true_eq_false, not_false_eq_true, zc9, zc1, zc2, zc3, zc1000, nI_m9, nI_add, pk_mul, ix_nI, vpT, zk_zpi, zn_zpi, zr_zpi, zk_zpa, zn_zpa, zr_zpa, zsz_zpi, zsz_zpa, zi_zpa, zpi_pa, zpa_zpa, true_and, and_true, and_self, a1', a5', w1']
  rw [e1]
  refine v_until (r := wF (F 1) (F 3) n) hw (CR_w hR) (fun u hu => wF_tag hu) ?_
  intro G' p' hP'
  obtain ⟨f1, f2⟩ := fc_end (G := G') hC hw hP'
  exact hq _ f1 f2
theorem pb_later {E : zE} {Q : Int32 → zH → Prop} {x s L nr nk n td : Nat} {h : zH} {F : Nat → Nat → Int32} {a b c : Int32} (hC : CI h x F s L) (hW : WR h (x + 1 + 1) (F 1) nr nk n td) (hq : ∀ h', OUT h h' x (x + 348) → CI' h' x (F 1) (F 4) (F 5) s L → Q (qLat (F 1) (F 3) nr nk n td a b c) h') : zMi E mX8_later [.inr x, .inl a, .inl b, .inl c] h Q := by
  obtain ⟨⟨a1, a2, a3, a4, a5⟩, -, -, -, -, ⟨hw, -⟩, -⟩ := id hC.1
  obtain ⟨b1, b2, b3⟩ := SP_w hC.1.2.2.2.1
  have w1 := hw.1
  (refine eX8_later 200 ?_; simp (disch := omega) only [↓wX8_later_0, ↓wX8_later_1, ↓wX8_later_4, ↓wX8_later_5, ↓wX8_later_8, ↓wX8_later_11, ↓wX8_later_14, ↓wX8_later_15, ↓wX8_later_18, ↓wX8_later_19, ↓wX8_later_20, ↓wX8_later_21, ↓wX8_later_24, zQi_def, zQa_def, zQv_def, nI00, nI10, nI11, nI01, true_or, or_true, false_or, or_false, eq_self, true_implies, false_implies, not_true_eq_false, not_false_eq_true, zc9, zc1, zc2, zc3, zc1000, nI_m9, nI_add, pk_mul, ix_nI, vpT, zk_zpi, zn_zpi, zr_zpi, zk_zpa, zn_zpa, zr_zpa, zsz_zpi, zsz_zpa, zi_zpa, zpi_pa, zpa_zpa, true_and, and_true, and_self, a1, a2, a5, b1, b2, b3, w1])
  refine fc_copy hC hW ?_
  intro h1 G p X1 hw1 hR e1
  obtain ⟨⟨a1', a2', a3', a4', a5'⟩, -⟩ := id X1
  have w1' := hw1.1
  simp (disch := omega) only [↓wX8_later_0, ↓wX8_later_1, ↓wX8_later_4, ↓wX8_later_5, ↓wX8_later_8, ↓wX8_later_11, ↓wX8_later_14, ↓wX8_later_15, ↓wX8_later_18, ↓wX8_later_19, ↓wX8_later_20, ↓wX8_later_21, ↓wX8_later_24, zQi_def, zQa_def, zQv_def, nI00, nI10, nI11, nI01, true_or, or_true, false_or, or_false, eq_self, true_implies, false_implies, not_true_eq_false, not_false_eq_true, zc9, zc1, zc2, zc3, zc1000, nI_m9, nI_add, pk_mul, ix_nI, vpT, zk_zpi, zn_zpi, zr_zpi, zk_zpa, zn_zpa, zr_zpa, zsz_zpi, zsz_zpa, zi_zpa, zpi_pa, zpa_zpa, true_and, and_true, and_self, a1', a5', w1']
  rw [e1]
  refine v_later (r := wF (F 1) (F 3) n) hw (CR_w hR) ?_
  intro G' p' hP'
  obtain ⟨f1, f2⟩ := fc_end (G := G') hC hw hP'
  exact hq _ f1 f2

