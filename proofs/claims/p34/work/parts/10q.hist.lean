/-! The class: the history. -/
theorem CR_r {G : Nat → Nat → Int32} {p : Nat → Nat} {r r' : Nat → Int32} {nr nk n td : Nat} (h : ∀ k, k < 433 → r' k = r k) (hR : CR G p r nr nk n td) : CR G p r' nr nk n td := by
  obtain ⟨hI, hX, hA, ⟨hB1, hB2⟩, ⟨h3, hRd, hSt, hFr, hLd⟩, ⟨hK, hKf⟩, hTu, hP⟩ := hR
  obtain ⟨i1, i2, i3, i0, hb, hTW, hKP⟩ := hI
  obtain ⟨hX1, hX2, hX3, hX4, hX5, hX6⟩ := hX
  refine ⟨⟨(h _ (by omega)).trans i1, (h _ (by omega)).trans i2, (h _ (by omega)).trans i3, (h _ (by omega)).trans i0, hb, fun u hu => TWc (fun f hf => h _ (by omega)) (hTW u hu), KP_of (fun k hk => h _ (by omega)) hKP⟩, ⟨?_, ?_, ?_, ?_, ?_, ?_⟩, ?_, ⟨?_, ?_⟩, ⟨?_, ?_, ?_, hFr, hLd⟩, ⟨?_, hKf⟩, ?_, hP⟩
  · intro k hk; rw [h _ (by omega)]; exact hX1 k hk
  · intro k hk; rw [h _ (by omega)]; exact hX2 k hk
  · intro i hi; rw [h _ (by omega), kO_congr (r' := r) (fun k hk => h _ (by omega))]; exact hX3 i hi
  · intro i hi s hs; rw [h _ (by omega)]; exact hX4 i hi s hs
  · intro k hk; rw [h _ (by omega), h _ (by omega), h _ (by omega)]; exact hX5 k hk
  · intro t ht; rw [h _ (by omega), h _ (by omega), h _ (by omega)]; exact hX6 t ht
  · unfold CA
    rw [h 0 (by omega), h 1 (by omega), h 2 (by omega), h 3 (by omega), h 4 (by omega), h 5 (by omega), h 6 (by omega)]; exact hA
  · intro k hk; rw [h _ (by omega)]; exact hB1 k hk
  · intro k hk; rw [h _ (by omega)]; exact hB2 k hk
  · intro i hi f hf; rw [h _ (by omega)]; exact h3 i hi f hf
  · intro i hi; rw [h _ (by omega)]; exact hRd i hi
  · intro i hi s hs f hf; rw [h _ (by omega)]; exact hSt i hi s hs f hf
  · intro k hk f hf; rw [h _ (by omega)]; exact hK k hk f hf
  · intro t ht; exact ⟨fun f hf => by rw [h _ (by omega)]; exact (hTu t ht).1 f hf, (hTu t ht).2⟩
theorem WX_r {h : zH} {w : Nat} {r r' : Nat → Int32} (e : ∀ k, k < 433 → r' k = r k) (hW : WX h w r) : WX h w r' := by
  obtain ⟨nr, nk, n, td, hw, p, hp, hR⟩ := hW
  exact ⟨nr, nk, n, td, hw, p, hp, CR_r e hR⟩
theorem SR_r {h : zH} {B st : Nat} {r r' : Nat → Int32} (e : ∀ k, k < 1301 → r' k = r k) (hS : SR h B st r) : SR h B st r' := by
  refine ⟨WX_r (fun k hk => e k (by omega)) hS.1, fun j hj => ?_⟩
  rw [e _ (by omega)]
  rcases hS.2 j hj with q | ⟨q1, q2, q3, q4⟩
  · exact Or.inl q
  · exact Or.inr ⟨q1, q2, q3, WX_r (fun k hk => e _ (by omega)) q4⟩
def spA (x o s : Nat) : Nat := x + (46 + 43 * ((o + s) % 6))
theorem n6p : ((0 : Int32) < nI 6) = True := eq_true (by decide)
theorem v_spare {E : zE} {Q : Nat → zH → Prop} {x o s : Nat} {h : zH} (hX : XS h x) (ho : zi h (x + 44) 1 = nI o) (ho6 : o < 6) (hs : zi h (x + 44) 2 = nI s) (hs5 : s ≤ 5) (hq : Q (spA x o s) h) : zMa E mX0_spare [.inr (x + 44)] h Q := by
  obtain ⟨-, ⟨b1, b2, b3, b4, b5⟩, -⟩ := id hX
  (refine eX0_spare 200 ?_; simp (disch := omega) only [↓wX0_spare_0, ↓wX0_spare_1, ↓wX0_spare_4, ↓wX0_spare_5, ↓wX0_spare_8, ↓wX0_spare_9, ↓wX0_spare_12, ↓wX0_spare_13, ↓wX0_spare_15, ↓wX0_spare_18, ↓wX0_spare_19, zQi_def, zQa_def, zQv_def, nI00, nI10, nI11, nI01, true_or, or_true, false_or, or_false, eq_self, true_implies, false_implies, not_true_eq_false, not_false_eq_true, zc9, zc1, zc2, zc3, zc1000, nI_m9, nI_add, pk_mul, ix_nI, vpT, zk_zpi, zn_zpi, zr_zpi, zk_zpa, zn_zpa, zr_zpa, zsz_zpi, zsz_zpa, zi_zpa, zpi_pa, zpa_zpa, true_and, and_true, and_self, b1, b2, b3, b4, ho, hs, pk_rem, nI_nneg, not_false_eq_true, n6p, q24, b5])
  exact hq
theorem SP_w {h : zH} {x : Nat} (hS : SP h (x + 1)) : zk h (x + 1) = 4 ∧ zr h (x + 1) 0 = x + 1 + 1 ∧ zk h (x + 1 + 1) = 8 := ⟨hS.1, hS.2.1, hS.2.2.2.2.2.1.1⟩
theorem v_prepare {E : zE} {Q : zH → Prop} {x o s : Nat} {h : zH} {r sv : Nat → Int32} (hX : XS h x) (hH : HI h x o r sv s)
    (hq : ∀ h', zsz h' = zsz h → OUT h h' (spA x o s) (spA x o s + 43) → SP h' (spA x o s) → SR h' (x + 348) (spA x o s) r → Q h') : zMv E mX8_prepare [.inr x] h Q := by
  obtain ⟨⟨a1, a2, a3, a4, a5⟩, ⟨b1, b2, b3, b4, b5⟩, -, hS1, hS2, -, hz⟩ := id hX
  obtain ⟨ho, ho6, hs, hs5, hR, -⟩ := hH
  have hsp : SP h (spA x o s) := hS2 _ (by omega)
  have s1 := hsp.1
  (refine eX8_prepare 200 ?_; simp (disch := omega) only [↓wX8_prepare_0, ↓wX8_prepare_1, ↓wX8_prepare_4, ↓wX8_prepare_7, ↓wX8_prepare_8, ↓wX8_prepare_11, ↓wX8_prepare_14, zQi_def, zQa_def, zQv_def, nI00, nI10, nI11, nI01, true_or, or_true, false_or, or_false, eq_self, true_implies, false_implies, not_true_eq_false, not_false_eq_true, zc9, zc1, zc2, zc3, zc1000, nI_m9, nI_add, pk_mul, ix_nI, vpT, zk_zpi, zn_zpi, zr_zpi, zk_zpa, zn_zpa, zr_zpa, zsz_zpi, zsz_zpa, zi_zpa, zpi_pa, zpa_zpa, true_and, and_true, and_self, a1, a2, a3, b1])
  refine v_spare hX ho ho6 hs hs5 ?_
  simp (disch := omega) only [↓wX8_prepare_0, ↓wX8_prepare_1, ↓wX8_prepare_4, ↓wX8_prepare_7, ↓wX8_prepare_8, ↓wX8_prepare_11, ↓wX8_prepare_14, zQi_def, zQa_def, zQv_def, nI00, nI10, nI11, nI01, true_or, or_true, false_or, or_false, eq_self, true_implies, false_implies, not_true_eq_false, not_false_eq_true, zc9, zc1, zc2, zc3, zc1000, nI_m9, nI_add, pk_mul, ix_nI, vpT, zk_zpi, zn_zpi, zr_zpi, zk_zpa, zn_zpa, zr_zpa, zsz_zpi, zsz_zpa, zi_zpa, zpi_pa, zpa_zpa, true_and, and_true, and_self, a1, a2, s1]
  refine v_copy3 hsp hS1 (by unfold spA; omega) (by unfold spA; omega) (SN_8 hR.2) ?_
  intro h' z1 o1 p1 c1
  try simp (disch := omega) only [↓wX8_prepare_0, ↓wX8_prepare_1, ↓wX8_prepare_4, ↓wX8_prepare_7, ↓wX8_prepare_8, ↓wX8_prepare_11, ↓wX8_prepare_14, zQi_def, zQa_def, zQv_def]
  exact hq h' z1 o1 p1 (c1 _ _ hR (by unfold spA; omega))
theorem XS_sp {h h' : zH} {x j : Nat} (hX : XS h x) (hj : j < 6) (hO : OUT h h' (x + (46 + 43 * j)) (x + (46 + 43 * j) + 43)) (hP : SP h' (x + (46 + 43 * j))) : XS h' x := by
  obtain ⟨-, -, -, h1, h2, h3, hz⟩ := id hX
  have key : ∀ c, c = x ∨ c = x + 44 ∨ c = x + 45 ∨ (x + 304 ≤ c ∧ c < x + 307) → SM h h' c := fun c hc => hO.2 c (by omega) (by omega)
  refine XS_of hX hO.1 (fun c hc => ⟨(key c hc).1, (key c hc).2.1, (key c hc).2.2.2⟩) (SP_tr h1 (OUT_same hO (by omega) (by omega))) (fun i hi => ?_) (WP_tr h3 (OUT_same hO (by omega) (by omega)))
  by_cases e : i = j
  · subst e; exact hP
  · exact SP_tr (h2 i hi) (OUT_same hO (by omega) (by omega))
theorem pre_keep {h h' : zH} {x o s L : Nat} {r sv tx : Nat → Int32} (hX : XS h x) (hH : HI h x o r sv s) (hT : TX h x tx L) (hO : OUT h h' (spA x o s) (spA x o s + 43)) (hP : SP h' (spA x o s)) : XS h' x ∧ HI h' x o r sv s ∧ TX h' x tx L := by
  have hz := hX.2.2.2.2.2.2
  obtain ⟨ho, ho6, hs, hs5, hR, hRs⟩ := hH
  unfold spA at hO hP
  have s44 := hO.2 (x + 44) (by omega) (by omega)
  have s4 := hO.2 (x + 304) (by omega) (by omega)
  have s5 := hO.2 (x + 305) (by omega) (by omega)
  refine ⟨XS_sp hX (by omega) hO hP, ⟨by rw [s44.2.2.1]; exact ho, ho6, by rw [s44.2.2.1]; exact hs, hs5, SR_out hR hO (by omega) (by omega) (by omega), fun i hi => SR_out (hRs i hi) hO (by omega) (by omega) (by omega)⟩, ?_⟩
  unfold TX
  rw [s4.2.2.1, s5.2.2.1]
  exact hT
theorem XS_1 {h h' : zH} {x : Nat} (hX : XS h x) (hO : OUT h h' (x + 1) (x + 44)) (hP : SP h' (x + 1)) : XS h' x := by
  obtain ⟨-, -, -, h1, h2, h3, hz⟩ := id hX
  have key : ∀ c, c = x ∨ c = x + 44 ∨ c = x + 45 ∨ (x + 304 ≤ c ∧ c < x + 307) → SM h h' c := fun c hc => hO.2 c (by omega) (by omega)
  exact XS_of hX hO.1 (fun c hc => ⟨(key c hc).1, (key c hc).2.1, (key c hc).2.2.2⟩) hP (fun i hi => SP_tr (h2 i hi) (OUT_same hO (by omega) (by omega))) (WP_tr h3 (OUT_same hO (by omega) (by omega)))
theorem SP_1 {h h' : zH} {x : Nat} (hS : SP h (x + 1)) (hz : x + 348 ≤ zsz h) (hO : OUT h h' (x + 1 + 1) (x + 1 + 1 + 41)) (hW : WP h' (x + 1 + 1)) : SP h' (x + 1) := by
  obtain ⟨s1, s2, s3, s4, s5, s6⟩ := hS
  obtain ⟨a1, a2, a3, a4⟩ := hO.2 (x + 1) (by omega) (by omega)
  obtain ⟨b1, b2, b3, b4⟩ := hO.2 (x + 1 + 42) (by omega) (by omega)
  exact ⟨by rw [a1]; exact s1, by rw [a4]; exact s2, by rw [a4]; exact s3, by rw [b1]; exact s4, by rw [b2]; exact s5, hW⟩
theorem SR_1 {h h' : zH} {x : Nat} {r r' : Nat → Int32} (hS : SR h (x + 348) (x + 1) r) (hz : x + 348 ≤ zsz h) (hO : OUT h h' (x + 1 + 1) (x + 1 + 1 + 41)) (hW : WX h' (x + 1 + 1) r') (hr : ∀ k, 433 ≤ k → r' k = r k) : SR h' (x + 348) (x + 1) r' :=
  ⟨hW, SN_tr hS.2 hO.1 (hO.2 _ (by omega) (by omega)) (fun c c1 c2 => hO.2 c c2 (by omega)) hr⟩
/-- the world of today has become another row -/
theorem act_keep {h h' : zH} {x o s L : Nat} {r r' sv tx : Nat → Int32} (hX : XS h x) (hH : HI h x o r sv s) (hT : TX h x tx L) (hO : OUT h h' (x + 1 + 1) (x + 1 + 1 + 41)) (hW : WX h' (x + 1 + 1) r') (hr : ∀ k, 433 ≤ k → r' k = r k) : XS h' x ∧ HI h' x o r' sv s ∧ TX h' x tx L := by
  have hz := hX.2.2.2.2.2.2
  obtain ⟨ho, ho6, hs, hs5, hR, hRs⟩ := hH
  have s44 := hO.2 (x + 44) (by omega) (by omega)
  have s4 := hO.2 (x + 304) (by omega) (by omega)
  have s5 := hO.2 (x + 305) (by omega) (by omega)
  refine ⟨XS_1 hX (OUT_mono hO (by omega) (by omega)) (SP_1 hX.2.2.2.1 hz hO (WP_X hW)), ⟨by rw [s44.2.2.1]; exact ho, ho6, by rw [s44.2.2.1]; exact hs, hs5, SR_1 hR hz hO hW hr, fun i hi => SR_out (hRs i hi) hO (by omega) (by omega) (by omega)⟩, ?_⟩
  unfold TX
  rw [s4.2.2.1, s5.2.2.1]
  exact hT
theorem v_conc_f {E : zE} {Q : Int32 → zH → Prop} {x : Nat} {a : Int32} {h : zH} (h0 : a < 0) (hq : Q a h) : zMi E mX8_conclude [.inr x, .inl a] h Q := by
  (refine eX8_conclude 200 ?_; simp (disch := omega) only [↓wX8_conclude_0, ↓wX8_conclude_1, ↓wX8_conclude_4, ↓wX8_conclude_5, ↓wX8_conclude_8, ↓wX8_conclude_11, ↓wX8_conclude_12, zQi_def, zQa_def, zQv_def, nI00, nI10, nI11, nI01, true_or, or_true, false_or, or_false, eq_self, true_implies, false_implies, not_true_eq_false, not_false_eq_true, zc9, zc1, zc2, zc3, zc1000, nI_m9, nI_add, pk_mul, ix_nI, vpT, zk_zpi, zn_zpi, zr_zpi, zk_zpa, zn_zpa, zr_zpa, zsz_zpi, zsz_zpa, zi_zpa, zpi_pa, zpa_zpa, true_and, and_true, and_self])
  exact ⟨fun _ => hq, fun e => absurd h0 e⟩
theorem OUT_zpa (h : zH) (a : Nat) (f : Nat → Int32) : OUT h (zpa h a f) a (a + 1) := ⟨Nat.le_refl _, fun c _ hc => ⟨rfl, rfl, zi_zpaN h f (by omega), rfl⟩⟩
theorem XS_i {h : zH} {x a : Nat} {f : Nat → Int32} (hX : XS h x) (ha : a = x + 44 ∨ (x + 304 ≤ a ∧ a < x + 307)) : XS (zpa h a f) x := by
  obtain ⟨-, -, -, h1, h2, h3, hz⟩ := id hX
  have hO := OUT_zpa h a f
  exact XS_of hX hO.1 (fun c hc => ⟨rfl, rfl, rfl⟩) (SP_tr h1 (OUT_same hO (by omega) (by omega))) (fun i hi => SP_tr (h2 i hi) (OUT_same hO (by omega) (by omega))) (WP_tr h3 (OUT_same hO (by omega) (by omega)))
theorem q55 : (nI 5 ≤ nI 5) = True := eq_true (by decide)
theorem v_conc_s {E : zE} {Q : Int32 → zH → Prop} {x o s L : Nat} {a : Int32} {h : zH} {r' tx : Nat → Int32} {F : Nat → Nat → Int32} (hX : XS h x) (hH : HI h x o r' (F 4) s) (hT : TX h x tx L) (hS : SR h (x + 348) (spA x o s) (F 1)) (h0 : 0 ≤ a)
    (hq : ∀ h', zsz h' = zsz h → OUT h h' (x + 44) (x + 45) → XS h' x → (∃ o', HI h' x o' r' (svF F s) (svN s)) → TX h' x tx L → Q a h') : zMi E mX8_conclude [.inr x, .inl a] h Q := by
  obtain ⟨⟨a1, a2, a3, a4, a5⟩, ⟨b1, b2, b3, b4, b5⟩, -, hS1, hS2, -, hz⟩ := id hX
  obtain ⟨ho, ho6, hs, hs5, hR, hRs⟩ := hH
  have n5 : (nI 5 ≤ nI s) = (5 ≤ s) := propext (nI_leI (by omega) (by omega))
  have h0' : (a < 0) = False := eq_false (Int32.not_lt.mpr h0)
  (refine eX8_conclude 200 ?_; simp (disch := omega) only [↓wX8_conclude_0, ↓wX8_conclude_1, ↓wX8_conclude_4, ↓wX8_conclude_5, ↓wX8_conclude_8, ↓wX8_conclude_11, ↓wX8_conclude_12, zQi_def, zQa_def, zQv_def, nI00, nI10, nI11, nI01, true_or, or_true, false_or, or_false, eq_self, true_implies, false_implies, not_true_eq_false, not_false_eq_true, zc9, zc1, zc2, zc3, zc1000, nI_m9, nI_add, pk_mul, ix_nI, vpT, zk_zpi, zn_zpi, zr_zpi, zk_zpa, zn_zpa, zr_zpa, zsz_zpi, zsz_zpa, zi_zpa, zpi_pa, zpa_zpa, true_and, and_true, and_self, a1, a3, b1, h0'])
  unfold spA at hS
  have fin : ∀ f, f 1 = nI ((if s = 5 then (o + 1) % 6 else o)) → f 2 = nI (svN s) → Q a (zpa h (x + 44) f) := by
    intro f f1 f2
    have hO := OUT_zpa h (x + 44) f
    refine hq _ rfl hO (XS_i hX (Or.inl rfl)) ⟨if s = 5 then (o + 1) % 6 else o, by rw [zi_zpa]; exact f1, by split <;> omega, by rw [zi_zpa]; exact f2, by unfold svN; split <;> omega, SR_out hR hO (by omega) (by omega) (by omega), fun i hi => ?_⟩ ?_
    · unfold svN at hi
      by_cases e : s = 5
      · rw [if_pos e] at hi ⊢
        unfold svF
        simp only [if_pos e]
        by_cases e4 : i = 4
        · subst e4
          rw [show x + (46 + 43 * (((o + 1) % 6 + 4) % 6)) = x + (46 + 43 * ((o + s) % 6)) by omega]
          refine SR_r (fun k hk => ?_) (SR_out hS hO (by omega) (by omega) (by omega))
          rw [pk_cpy_in (by omega) (by omega), show 0 + (1301 * 4 + k - 5204) = k by omega]
        · rw [show x + (46 + 43 * (((o + 1) % 6 + i) % 6)) = x + (46 + 43 * ((o + (i + 1)) % 6)) by omega]
          refine SR_r (fun k hk => ?_) (SR_out (hRs (i + 1) (by omega)) hO (by omega) (by omega) (by omega))
          rw [pk_cpy_out (by omega), pk_cpy_in (by omega) (by omega)]; congr 1; omega
      · rw [if_neg e] at hi ⊢
        unfold svF
        simp only [if_neg e]
        by_cases e4 : i = s
        · subst e4
          refine SR_r (fun k hk => ?_) (SR_out hS hO (by omega) (by omega) (by omega))
          rw [pk_cpy_in (by omega) (by omega)]; congr 1; omega
        · refine SR_r (fun k hk => ?_) (SR_out (hRs i (by omega)) hO (by omega) (by omega) (by omega))
          rw [pk_cpy_out (by omega)]
    · unfold TX
      rw [zi_zpaN _ _ (by omega), zi_zpaN _ _ (by omega)]
      exact hT
  by_cases e : s = 5
  · subst e
    refine eX0_recordSpare 200 ?_
    simp (disch := omega) only [↓wX0_recordSpare_0, ↓wX0_recordSpare_1, ↓wX0_recordSpare_4, ↓wX0_recordSpare_5, ↓wX0_recordSpare_8, ↓wX0_recordSpare_9, ↓wX0_recordSpare_10, ↓wX0_recordSpare_13, ↓wX0_recordSpare_14, ↓wX0_recordSpare_15, ↓wX0_recordSpare_18, ↓wX0_recordSpare_21, ↓wX0_recordSpare_22, ↓wX0_recordSpare_23, ↓wX0_recordSpare_26, ↓wX0_recordSpare_27, ↓wX0_recordSpare_28, ↓wX0_recordSpare_30, ↓wX0_recordSpare_31, ↓wX0_recordSpare_34, zQi_def, zQa_def, zQv_def, nI00, nI10, nI11, nI01, true_or, or_true, false_or, or_false, eq_self, true_implies, false_implies, not_true_eq_false, not_false_eq_true, zc9, zc1, zc2, zc3, zc1000, nI_m9, nI_add, pk_mul, ix_nI, vpT, zk_zpi, zn_zpi, zr_zpi, zk_zpa, zn_zpa, zr_zpa, zsz_zpi, zsz_zpa, zi_zpa, zpi_pa, zpa_zpa, true_and, and_true, and_self, b1, ho, hs, q55, pk_rem]
    refine ⟨by decide, fin _ ?_ ?_⟩
    · rw [if_pos rfl, zup_eq rfl]
    · rw [zup_ne (by omega), hs]; rfl
  · have h5 : ¬ 5 ≤ s := by omega
    refine eX0_recordSpare 200 ?_
    simp (disch := omega) only [↓wX0_recordSpare_0, ↓wX0_recordSpare_1, ↓wX0_recordSpare_4, ↓wX0_recordSpare_5, ↓wX0_recordSpare_8, ↓wX0_recordSpare_9, ↓wX0_recordSpare_10, ↓wX0_recordSpare_13, ↓wX0_recordSpare_14, ↓wX0_recordSpare_15, ↓wX0_recordSpare_18, ↓wX0_recordSpare_21, ↓wX0_recordSpare_22, ↓wX0_recordSpare_23, ↓wX0_recordSpare_26, ↓wX0_recordSpare_27, ↓wX0_recordSpare_28, ↓wX0_recordSpare_30, ↓wX0_recordSpare_31, ↓wX0_recordSpare_34, zQi_def, zQa_def, zQv_def, nI00, nI10, nI11, nI01, true_or, or_true, false_or, or_false, eq_self, true_implies, false_implies, not_true_eq_false, not_false_eq_true, zc9, zc1, zc2, zc3, zc1000, nI_m9, nI_add, pk_mul, ix_nI, vpT, zk_zpi, zn_zpi, zr_zpi, zk_zpa, zn_zpa, zr_zpa, zsz_zpi, zsz_zpa, zi_zpa, zpi_pa, zpa_zpa, true_and, and_true, and_self, b1, ho, hs, n5, h5]
    refine fin _ ?_ ?_
    · rw [if_neg e, zup_ne (by omega)]; exact ho
    · rw [zup_eq rfl]; unfold svN; rw [if_neg e]
/-- the object's state is the reference's -/
def CI (h : zH) (x : Nat) (F : Nat → Nat → Int32) (s L : Nat) : Prop := XS h x ∧ (∃ o, HI h x o (F 1) (F 4) s) ∧ TX h x (F 5) L
def CI' (h : zH) (x : Nat) (r sv tx : Nat → Int32) (s L : Nat) : Prop := XS h x ∧ (∃ o, HI h x o r sv s) ∧ TX h x tx L
def UO (Q : Int32 → zH → Prop) (h : zH) (x : Nat) (F : Nat → Nat → Int32) (s L : Nat) (o : Int32 × Option (Nat → Int32)) : Prop := match o.2 with
  | none => ∀ h', OUT h h' x (x + 348) → CI' h' x (F 1) (F 4) (F 5) s L → Q o.1 h'
  | some r' => ∀ h', OUT h h' x (x + 348) → CI' h' x r' (svF F s) (F 5) (svN s) L → Q o.1 h'
theorem act_fin {E : zE} {Q : Int32 → zH → Prop} {x o s L : Nat} {h h1 : zH} {F : Nat → Nat → Int32} {ou : Int32 × Option (Nat → Int32)} (hX : XS h1 x) (hH : HI h1 x o (F 1) (F 4) s) (hT : TX h1 x (F 5) L) (hS : SR h1 (x + 348) (spA x o s) (F 1)) (hO : OUT h h1 x (x + 348))
    (htl : ∀ r', ou.2 = some r' → ∀ k, 433 ≤ k → r' k = F 1 k) (hq : UO Q h x F s L ou) : ACTW (fun a h => zk h x = 9 ∧ zMi E mX8_conclude [.inr x, .inl a] h Q) h1 (x + 1 + 1) ou := by
  have hz := hX.2.2.2.2.2.2
  rcases ou with ⟨a, _ | r'⟩
  · intro h0
    exact ⟨hX.1.1, v_conc_f h0 (hq h1 hO ⟨hX, ⟨o, hH⟩, hT⟩)⟩
  · intro h0 h2 hz2 hO2 hW2
    have hr := htl r' rfl
    obtain ⟨X2, H2, T2⟩ := act_keep hX hH hT hO2 hW2 hr
    refine ⟨X2.1.1, v_conc_s (F := F) X2 H2 T2 (SR_out hS hO2 (by unfold spA; omega) (by unfold spA; omega) (by omega)) h0 ?_⟩
    intro h3 hz3 hO3 X3 H3 T3
    exact hq h3 (OUT_tr hO (OUT_tr (OUT_mono hO2 (by omega) (by omega)) (OUT_mono hO3 (by omega) (by omega)))) ⟨X3, H3, T3⟩

