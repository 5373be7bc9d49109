/-! The law: its loop. -/
def NEXT (E : zE) (Q : Option zV → zH → Prop) (QL : Int64 → zH → Prop) (x cp : Nat) (v : Int32) (l0 : Option zV) (t T k n : Nat) : Prop := ∀ (pl : Int32) (h : zH) (l6 l9 l10 l11 : Option zV), qLI h x cp T pl → zJX E mL_law Q QL ([], []) 114 [l0, some (.inr x), some (.inr cp), some (.inl v), some (.inl pl), some (.inl (nI (t + 1))), l6, none, none, l9, l10, l11] [] h k n
section Lo
variable {E : zE} {Q : Option zV → zH → Prop} {QL : Int64 → zH → Prop} {x cp k n t T : Nat} {v : Int32} {l0 : Option zV}
theorem lL269 {h : zH} {pl : Int32} {g : Int64} {l6 l9 l10 l11 : Option zV} (ht : t < 20) (hL : qLI h x cp T pl) (hQ : NEXT E Q QL x cp v l0 t T k n) : zJX E mL_law Q QL ([], [(7, g)]) 269 [l0, some (.inr x), some (.inr cp), some (.inl v), some (.inl pl), some (.inl (nI t)), l6, none, none, l9, l10, l11] [] h k n := by
  have hJ : zJX E mL_law Q QL ([], [(7, g)]) 114 [l0, some (.inr x), some (.inr cp), some (.inl v), some (.inl pl), some (.inl (nI (t + 1))), l6, none, none, l9, l10, l11] [] h k n := (hQ pl h l6 l9 l10 l11 hL).drop (fun q hq => by cases hq)
  obtain ⟨r, sv, tx, s, L, nr, nk, nn, td, came, hL, hnr, hnk, htd, hpl⟩ := hL
  have hI := hL.1.RI
  have hb := RI_bd hI
  have hnk8 := hb.2.1
  have k9 := hL.1.k9
  obtain ⟨hS, hV, hNS, hM, c1, c2⟩ := hL
  (refine jL_law 200 ?_; simp (disch := omega) only [↓wL_law_0, ↓wL_law_3, ↓wL_law_4, ↓wL_law_7, ↓wL_law_8, ↓wL_law_10, ↓wL_law_12, ↓wL_law_13, ↓wL_law_14, ↓wL_law_15, ↓wL_law_18, ↓wL_law_19, ↓wL_law_20, ↓wL_law_22, ↓wL_law_23, ↓wL_law_25, ↓wL_law_28, ↓wL_law_29, ↓wL_law_30, ↓wL_law_31, ↓wL_law_33, ↓wL_law_34, ↓wL_law_35, ↓wL_law_38, ↓wL_law_39, ↓wL_law_40, ↓wL_law_41, ↓wL_law_43, ↓wL_law_44, ↓wL_law_45, ↓wL_law_48, ↓wL_law_49, ↓wL_law_52, ↓wL_law_53, ↓wL_law_54, ↓wL_law_55, ↓wL_law_57, ↓wL_law_58, ↓wL_law_60, ↓wL_law_63, ↓wL_law_64, ↓wL_law_65, ↓wL_law_67, ↓wL_law_68, ↓wL_law_69, ↓wL_law_72, ↓wL_law_73, ↓wL_law_74, ↓wL_law_77, ↓wL_law_78, ↓wL_law_79, ↓wL_law_81, ↓wL_law_83, ↓wL_law_84, ↓wL_law_87, ↓wL_law_88, ↓wL_law_89, ↓wL_law_90, ↓wL_law_92, ↓wL_law_93, ↓wL_law_94, ↓wL_law_95, ↓wL_law_98, ↓wL_law_101, ↓wL_law_102, ↓wL_law_105, ↓wL_law_108, ↓wL_law_109, ↓wL_law_111, ↓wL_law_112, ↓wL_law_114, ↓wL_law_116, ↓wL_law_118, ↓wL_law_121, ↓wL_law_122, ↓wL_law_124, ↓wL_law_127, ↓wL_law_129, ↓wL_law_130, ↓wL_law_133, ↓wL_law_135, ↓wL_law_136, ↓wL_law_137, ↓wL_law_140, ↓wL_law_142, ↓wL_law_143, ↓wL_law_145, ↓wL_law_148, ↓wL_law_150, ↓wL_law_152, ↓wL_law_154, ↓wL_law_155, ↓wL_law_157, ↓wL_law_159, ↓wL_law_162, ↓wL_law_163, ↓wL_law_166, ↓wL_law_168, ↓wL_law_169, ↓wL_law_172, ↓wL_law_173, ↓wL_law_174, ↓wL_law_176, ↓wL_law_179, ↓wL_law_181, ↓wL_law_182, ↓wL_law_183, ↓wL_law_184, ↓wL_law_187, ↓wL_law_188, ↓wL_law_191, ↓wL_law_192, ↓wL_law_193, ↓wL_law_196, ↓wL_law_198, ↓wL_law_199, ↓wL_law_202, ↓wL_law_203, ↓wL_law_205, ↓wL_law_208, ↓wL_law_210, ↓wL_law_213, ↓wL_law_214, ↓wL_law_215, ↓wL_law_217, ↓wL_law_220, ↓wL_law_222, ↓wL_law_224, ↓wL_law_225, ↓wL_law_228, ↓wL_law_230, ↓wL_law_232, ↓wL_law_235, ↓wL_law_236, ↓wL_law_239, ↓wL_law_241, ↓wL_law_243, ↓wL_law_246, ↓wL_law_247, ↓wL_law_250, ↓wL_law_251, ↓wL_law_252, ↓wL_law_254, ↓wL_law_256, ↓wL_law_257, ↓wL_law_260, ↓wL_law_261, ↓wL_law_263, ↓wL_law_264, ↓wL_law_265, ↓wL_law_268, ↓wL_law_269, ↓wL_law_271, ↓wL_law_272, ↓wL_law_273, ↓wL_law_276, ↓wL_law_277, ↓wL_law_278, ↓wL_law_281, ↓wL_law_282, ↓wL_law_283, ↓wL_law_285, ↓wL_law_288, ↓wL_law_289, ↓wL_law_292, ↓wL_law_294, ↓wL_law_295, ↓wL_law_296, ↓wL_law_299, ↓wL_law_300, ↓wL_law_301, ↓wL_law_304, ↓wL_law_307, ↓wL_law_308, ↓wL_law_311, ↓wL_law_314, ↓wL_law_315, ↓wL_law_316, ↓wL_law_319, ↓wL_law_322, ↓wL_law_323, ↓wL_law_326, ↓wL_law_328, ↓wL_law_329, ↓wL_law_331, ↓wL_law_332, ↓wL_law_335, ↓wL_law_336, ↓wL_law_339, ↓wL_law_340, ↓wL_law_341, ↓wL_law_342, ↓wL_law_343, ↓wL_law_346, ↓wL_law_347, ↓wL_law_350, ↓wL_law_351, ↓wL_law_352, ↓wL_law_355, ↓wL_law_356, ↓wL_law_359, ↓wL_law_360, ↓wL_law_361, ↓wL_law_364, ↓wL_law_365, ↓wL_law_366, ↓wL_law_369, ↓wL_law_370, ↓wL_law_373, ↓wL_law_374, ↓wL_law_376, ↓wL_law_379, ↓wL_law_380, ↓wL_law_383, ↓wL_law_384, ↓wL_law_385, ↓wL_law_388, ↓wL_law_389, ↓wL_law_392, ↓wL_law_393, ↓wL_law_394, ↓wL_law_396, ↓wL_law_397, ↓wL_law_400, ↓wL_law_401, ↓wL_law_404, ↓wL_law_405, ↓wL_law_406, ↓wL_law_407, ↓wL_law_410, ↓wL_law_411, ↓wL_law_414, ↓wL_law_415, ↓wL_law_416, ↓wL_law_419, ↓wL_law_421, ↓wL_law_424, ↓wL_law_425, ↓wL_law_428, ↓wL_law_430, ↓wL_law_431, ↓wL_law_434, ↓wL_law_435, ↓wL_law_436, ↓wL_law_437, ↓wL_law_438, ↓wL_law_439, ↓wL_law_441, ↓wL_law_442, ↓wL_law_444, ↓wL_law_447, ↓wL_law_448, ↓wL_law_451, ↓wL_law_454, ↓wL_law_455, ↓wL_law_456, ↓wL_law_459, ↓wL_law_462, ↓wL_law_463, ↓wL_law_466, ↓wL_law_469, ↓wL_law_470, ↓wL_law_473, ↓wL_law_474, zQi_def, zQa_def, zQv_def, nI00, nI10, nI11, nI01, true_or, or_true, false_or, or_false, eq_self, true_implies, false_implies, not_true_eq_false, not_false_eq_true, zc9, zc1, zc2, zc3, zc1000, nI_m9, nI_add, pk_mul, ix_nI, vpT, zk_zpi, zn_zpi, zr_zpi, zk_zpa, zn_zpa, zr_zpa, zsz_zpi, zsz_zpa, zi_zpa, zpi_pa, zpa_zpa, true_and, and_true, and_self, k9])
  refine s_count hS ⟨k9, s_count hS ⟨k9, s_count hS ?_⟩⟩
  rw [qCnt3, qCnt5, qCnt6]
  refine ⟨fun q => absurd hpl q, fun _ => ⟨fun _ => hJ, fun _ => ?_⟩⟩
  refine c_isKept hS hV ⟨hM.1, hM.2.1, fun k hk => hM.2.2 k (by omega)⟩ ⟨fun q => absurd q (by decide), fun _ => ?_⟩
  exact c_isNext hS ⟨fun _ => hJ, fun q => absurd q (by decide)⟩
theorem lL215n {h : zH} {pl res : Int32} {g : Int64} {l6 l9 l11 : Option zV} (ht : t < 20) (hr : res < 0) (hL : qLI h x cp T pl) (hQ : NEXT E Q QL x cp v l0 t T k n) : zJX E mL_law Q QL ([], [(7, g)]) 215 [l0, some (.inr x), some (.inr cp), some (.inl v), some (.inl pl), some (.inl (nI t)), l6, none, none, l9, some (.inl res), l11] [] h k n := by
  refine jL_law 200 ?_
  simp (disch := omega) only [wL_law_215, wL_law_217]
  exact ⟨fun _ => lL269 ht hL hQ, fun q => absurd hr q⟩
theorem kd_le {a : Int32} {j : Nat} (hj : j < 100) : (a &&& nI 15 ≤ nI j) = (kd a ≤ j) := by
  unfold kd; rw [i32le, nIn (by omega)]
theorem kd_ge {a : Int32} {j : Nat} (hj : j < 100) : (nI j ≤ a &&& nI 15) = ((j : Int) ≤ kd a) := by
  unfold kd; rw [i32le, nIn (by omega)]
theorem kd_eq {a : Int32} {j : Nat} (hj : j < 100) : (a &&& nI 15 = nI j) = (kd a = j) := by
  unfold kd; rw [i32eq, nIn (by omega)]
/-- what is known behind a successful action, before came is written -/
def qAF (h : zH) (x cp T : Nat) (a pl : Int32) (nk : Nat) (l9 : Option zV) : Prop := l9 = some (.inl (nI nk)) ∧ ∃ r r' sv tx s L nr td came, qGOT h x cp r r' sv tx s L nr nk td came (cmA came nk td a) (dlA a) ∧ r 0 = nI td ∧ nk ≤ 8 ∧ 0 < nr ∧ 0 < nk ∧ td + 4 ≤ T ∧ pl = r 3 + r 4 + r 5 ∧ (kd a = 2 → r' 0 = r 0 ∧ nk < 8)
theorem lL215p {h : zH} {pl res a : Int32} {g : Int64} {nk : Nat} {l6 l9 : Option zV} (ht : t < 20) (hr : ¬ res < 0) (hL : qAF h x cp T a pl nk l9) (hQ : NEXT E Q QL x cp v l0 t T k n) : zJX E mL_law Q QL ([], [(7, g)]) 215 [l0, some (.inr x), some (.inr cp), some (.inl v), some (.inl pl), some (.inl (nI t)), l6, none, none, l9, some (.inl res), some (.inl (a &&& nI 15))] [] h k n := by
  obtain ⟨rfl, r, r', sv, tx, s, L, nr, td, came, ⟨nr', nk', n', td', hS, hV, hNS, hM, c1, c2, hA, g1, g2, g4⟩, hr0, h8, hnr, hnk, hT, hpl, hc⟩ := hL
  have k9 := hS.k9
  have hb := RI_bd hS.RI
  have hB : ∀ pl', pl' = pl + dlA a → (¬ a &&& nI 15 = nI 2 → zJX E mL_law Q QL ([], [(7, g)]) 269 [l0, some (.inr x), some (.inr cp), some (.inl v), some (.inl pl'), some (.inl (nI t)), l6, none, none, some (.inl (nI nk)), some (.inl res), some (.inl (a &&& nI 15))] [] h k n) ∧
      (a &&& nI 15 = nI 2 → zMi E mX8_count [.inr x, .inl (nI 0)] h fun q h => zk h cp = 20 ∧ vp_in (nI nk) (zn h cp) ∧ zJX E mL_law Q QL ([], [(7, g)]) 269 [l0, some (.inr x), some (.inr cp), some (.inl v), some (.inl pl'), some (.inl (nI t)), l6, none, none, some (.inl (nI nk)), some (.inl res), some (.inl (a &&& nI 15))] [] (zpa h cp (zup (zi h cp) nk q)) k n) := by
    intro pl' hpl'
    have hpl2 : pl' = r' 3 + r' 4 + r' 5 := by
      unfold AC at hA
      rw [hA, hpl', hpl]
    refine ⟨fun q => ?_, fun q => ?_⟩
    · rw [kd_eq (by omega)] at q
      rw [show cmA came nk td a = came from if_neg q] at hV
      exact lL269 ht ⟨r', _, tx, _, L, nr', nk', n', td', came, ⟨hS, hV, hNS, hM, c1, c2⟩, by omega, by omega, by omega, hpl2⟩ hQ
    · rw [kd_eq (by omega)] at q
      obtain ⟨hc1, hc2⟩ := hc q
      rw [show cmA came nk td a = zup came nk (nI td) from if_pos q] at hV
      refine s_count hS ⟨hM.1, by rw [hM.2.1]; exact of_eq_true (vpT hc2 (by omega)), ?_⟩
      rw [qCnt0, hc1, hr0]
      have hz : ∀ b, b ≠ cp → SM h (zpa h cp (zup (zi h cp) nk (nI td))) b := fun b hb => ⟨rfl, rfl, zi_zpaN h _ hb, rfl⟩
      refine lL269 ht ⟨r', _, tx, _, L, nr', nk', n', td', zup came nk (nI td), ⟨hS.again (CI_far hS.1 hNS (Nat.le_refl _) (fun c q1 q2 => hz c (by omega))), hV, hNS, ⟨hM.1, hM.2.1, fun j hj => ?_⟩, c1, c2⟩, by omega, by omega, by omega, hpl2⟩ hQ
      rw [zi_zpa]
      by_cases e : j = nk
      · rw [zup_eq e, zup_eq e]
      · rw [zup_ne e, zup_ne e]; exact hM.2.2 j hj
  (refine jL_law 200 ?_; simp (disch := omega) only [↓wL_law_0, ↓wL_law_3, ↓wL_law_4, ↓wL_law_7, ↓wL_law_8, ↓wL_law_10, ↓wL_law_12, ↓wL_law_13, ↓wL_law_14, ↓wL_law_15, ↓wL_law_18, ↓wL_law_19, ↓wL_law_20, ↓wL_law_22, ↓wL_law_23, ↓wL_law_25, ↓wL_law_28, ↓wL_law_29, ↓wL_law_30, ↓wL_law_31, ↓wL_law_33, ↓wL_law_34, ↓wL_law_35, ↓wL_law_38, ↓wL_law_39, ↓wL_law_40, ↓wL_law_41, ↓wL_law_43, ↓wL_law_44, ↓wL_law_45, ↓wL_law_48, ↓wL_law_49, ↓wL_law_52, ↓wL_law_53, ↓wL_law_54, ↓wL_law_55, ↓wL_law_57, ↓wL_law_58, ↓wL_law_60, ↓wL_law_63, ↓wL_law_64, ↓wL_law_65, ↓wL_law_67, ↓wL_law_68, ↓wL_law_69, ↓wL_law_72, ↓wL_law_73, ↓wL_law_74, ↓wL_law_77, ↓wL_law_78, ↓wL_law_79, ↓wL_law_81, ↓wL_law_83, ↓wL_law_84, ↓wL_law_87, ↓wL_law_88, ↓wL_law_89, ↓wL_law_90, ↓wL_law_92, ↓wL_law_93, ↓wL_law_94, ↓wL_law_95, ↓wL_law_98, ↓wL_law_101, ↓wL_law_102, ↓wL_law_105, ↓wL_law_108, ↓wL_law_109, ↓wL_law_111, ↓wL_law_112, ↓wL_law_114, ↓wL_law_116, ↓wL_law_118, ↓wL_law_121, ↓wL_law_122, ↓wL_law_124, ↓wL_law_127, ↓wL_law_129, ↓wL_law_130, ↓wL_law_133, ↓wL_law_135, ↓wL_law_136, ↓wL_law_137, ↓wL_law_140, ↓wL_law_142, ↓wL_law_143, ↓wL_law_145, ↓wL_law_148, ↓wL_law_150, ↓wL_law_152, ↓wL_law_154, ↓wL_law_155, ↓wL_law_157, ↓wL_law_159, ↓wL_law_162, ↓wL_law_163, ↓wL_law_166, ↓wL_law_168, ↓wL_law_169, ↓wL_law_172, ↓wL_law_173, ↓wL_law_174, ↓wL_law_176, ↓wL_law_179, ↓wL_law_181, ↓wL_law_182, ↓wL_law_183, ↓wL_law_184, ↓wL_law_187, ↓wL_law_188, ↓wL_law_191, ↓wL_law_192, ↓wL_law_193, ↓wL_law_196, ↓wL_law_198, ↓wL_law_199, ↓wL_law_202, ↓wL_law_203, ↓wL_law_205, ↓wL_law_208, ↓wL_law_210, ↓wL_law_213, ↓wL_law_214, ↓wL_law_215, ↓wL_law_217, ↓wL_law_220, ↓wL_law_222, ↓wL_law_224, ↓wL_law_225, ↓wL_law_228, ↓wL_law_230, ↓wL_law_232, ↓wL_law_235, ↓wL_law_236, ↓wL_law_239, ↓wL_law_241, ↓wL_law_243, ↓wL_law_246, ↓wL_law_247, ↓wL_law_250, ↓wL_law_251, ↓wL_law_252, ↓wL_law_254, ↓wL_law_256, ↓wL_law_257, ↓wL_law_260, ↓wL_law_261, ↓wL_law_263, ↓wL_law_264, ↓wL_law_265, ↓wL_law_268, ↓wL_law_269, ↓wL_law_271, ↓wL_law_272, ↓wL_law_273, ↓wL_law_276, ↓wL_law_277, ↓wL_law_278, ↓wL_law_281, ↓wL_law_282, ↓wL_law_283, ↓wL_law_285, ↓wL_law_288, ↓wL_law_289, ↓wL_law_292, ↓wL_law_294, ↓wL_law_295, ↓wL_law_296, ↓wL_law_299, ↓wL_law_300, ↓wL_law_301, ↓wL_law_304, ↓wL_law_307, ↓wL_law_308, ↓wL_law_311, ↓wL_law_314, ↓wL_law_315, ↓wL_law_316, ↓wL_law_319, ↓wL_law_322, ↓wL_law_323, ↓wL_law_326, ↓wL_law_328, ↓wL_law_329, ↓wL_law_331, ↓wL_law_332, ↓wL_law_335, ↓wL_law_336, ↓wL_law_339, ↓wL_law_340, ↓wL_law_341, ↓wL_law_342, ↓wL_law_343, ↓wL_law_346, ↓wL_law_347, ↓wL_law_350, ↓wL_law_351, ↓wL_law_352, ↓wL_law_355, ↓wL_law_356, ↓wL_law_359, ↓wL_law_360, ↓wL_law_361, ↓wL_law_364, ↓wL_law_365, ↓wL_law_366, ↓wL_law_369, ↓wL_law_370, ↓wL_law_373, ↓wL_law_374, ↓wL_law_376, ↓wL_law_379, ↓wL_law_380, ↓wL_law_383, ↓wL_law_384, ↓wL_law_385, ↓wL_law_388, ↓wL_law_389, ↓wL_law_392, ↓wL_law_393, ↓wL_law_394, ↓wL_law_396, ↓wL_law_397, ↓wL_law_400, ↓wL_law_401, ↓wL_law_404, ↓wL_law_405, ↓wL_law_406, ↓wL_law_407, ↓wL_law_410, ↓wL_law_411, ↓wL_law_414, ↓wL_law_415, ↓wL_law_416, ↓wL_law_419, ↓wL_law_421, ↓wL_law_424, ↓wL_law_425, ↓wL_law_428, ↓wL_law_430, ↓wL_law_431, ↓wL_law_434, ↓wL_law_435, ↓wL_law_436, ↓wL_law_437, ↓wL_law_438, ↓wL_law_439, ↓wL_law_441, ↓wL_law_442, ↓wL_law_444, ↓wL_law_447, ↓wL_law_448, ↓wL_law_451, ↓wL_law_454, ↓wL_law_455, ↓wL_law_456, ↓wL_law_459, ↓wL_law_462, ↓wL_law_463, ↓wL_law_466, ↓wL_law_469, ↓wL_law_470, ↓wL_law_473, ↓wL_law_474, zQi_def, zQa_def, zQv_def, nI00, nI10, nI11, nI01, true_or, or_true, false_or, or_false, eq_self, true_implies, false_implies, not_true_eq_false, not_false_eq_true, zc9, zc1, zc2, zc3, zc1000, nI_m9, nI_add, pk_mul, ix_nI, vpT, zk_zpi, zn_zpi, zr_zpi, zk_zpa, zn_zpa, zr_zpa, zsz_zpi, zsz_zpa, zi_zpa, zpi_pa, zpa_zpa, true_and, and_true, and_self, k9])
  refine ⟨fun q => absurd q hr, fun _ => ⟨fun q1 => ⟨fun q2 => hB _ ?_, fun q2 => hB _ ?_⟩, fun q1 => ⟨fun q3 => ⟨fun q2 => hB _ ?_, fun q2 => hB _ ?_⟩, fun q3 => hB _ ?_⟩⟩⟩
  · rw [kd_le (by omega)] at q1
    rw [kd_eq (by omega)] at q2
    unfold dlA
    rw [if_neg (by omega), if_neg (by omega)]; rfl
  · rw [kd_eq (by omega)] at q2
    unfold dlA
    rw [if_neg (by omega), if_pos (by omega)]
  · rw [kd_ge (by omega)] at q3
    rw [kd_eq (by omega)] at q2
    unfold dlA
    rw [if_neg (by omega), if_neg (by omega)]; rfl
  · rw [kd_eq (by omega)] at q2
    unfold dlA
    rw [if_neg (by omega), if_pos (by omega)]
  · rw [kd_le (by omega)] at q1
    rw [kd_ge (by omega)] at q3
    unfold dlA
    rw [if_pos (by omega)]; rfl
end Lo
