/-! The law: its end. -/
def qLI (h : zH) (x cp T : Nat) (pl : Int32) : Prop := ∃ r sv tx s L nr nk n td came, qLS h x cp r sv tx s L nr nk n td came ∧ 0 < nr ∧ 0 < nk ∧ td ≤ T ∧ pl = r 3 + r 4 + r 5
theorem inF {i n : Nat} (h : n ≤ i) (hn : i < 2147483648) : ¬ inN (nI i) n = true := by rw [inN_nI hn]; omega
theorem zeta_m1 : (0 : Int32) ≤ -1 ↔ False := ⟨by decide, False.elim⟩
section Le
variable {E : zE} {Q : Option zV → zH → Prop} {QL : Int64 → zH → Prop} {h : zH} {x cp k n : Nat} {v pl : Int32} {l0 l4 l5 l6 l7 l8 l9 l10 l11 : Option zV}
theorem lg_self (y : Int64) : lg_cmp y y = 0 := by simp [lg_cmp]
theorem lL322 (hL : qLI h x cp 76 pl) (hQ : ∀ h, Q (some (.inl (nI 1))) h) (hk : k + 1 ≤ 600000) (hn : n + 56 ≤ 7302250) : zJX E mL_law Q QL ([], []) 322 [l0, some (.inr x), some (.inr cp), some (.inl v), l4, l5, l6, l7, l8, l9, l10, l11] [] h k n := by
  obtain ⟨r, sv, tx, s, L, nr, nk, nn, td, came, hL, hnr, hnk, htd, -⟩ := hL
  have hI := hL.1.RI
  have hb := RI_bd hI
  (refine jL_law 200 ?_; simp (disch := omega) only [↓wL_law_0, ↓wL_law_3, ↓wL_law_4, ↓wL_law_7, ↓wL_law_8, ↓wL_law_10, ↓wL_law_12, ↓wL_law_13, ↓wL_law_14, ↓wL_law_15, ↓wL_law_18, ↓wL_law_19, ↓wL_law_20, ↓wL_law_22, ↓wL_law_23, ↓wL_law_25, ↓wL_law_28, ↓wL_law_29, ↓wL_law_30, ↓wL_law_31, ↓wL_law_33, ↓wL_law_34, ↓wL_law_35, ↓wL_law_38, ↓wL_law_39, ↓wL_law_40, ↓wL_law_41, ↓wL_law_43, ↓wL_law_44, ↓wL_law_45, ↓wL_law_48, ↓wL_law_49, ↓wL_law_52, ↓wL_law_53, ↓wL_law_54, ↓wL_law_55, ↓wL_law_57, ↓wL_law_58, ↓wL_law_60, ↓wL_law_63, ↓wL_law_64, ↓wL_law_65, ↓wL_law_67, ↓wL_law_68, ↓wL_law_69, ↓wL_law_72, ↓wL_law_73, ↓wL_law_74, ↓wL_law_77, ↓wL_law_78, ↓wL_law_79, ↓wL_law_81, ↓wL_law_83, ↓wL_law_84, ↓wL_law_87, ↓wL_law_88, ↓wL_law_89, ↓wL_law_90, ↓wL_law_92, ↓wL_law_93, ↓wL_law_94, ↓wL_law_95, ↓wL_law_98, ↓wL_law_101, ↓wL_law_102, ↓wL_law_105, ↓wL_law_108, ↓wL_law_109, ↓wL_law_111, ↓wL_law_112, ↓wL_law_114, ↓wL_law_116, ↓wL_law_118, ↓wL_law_121, ↓wL_law_122, ↓wL_law_124, ↓wL_law_127, ↓wL_law_129, ↓wL_law_130, ↓wL_law_133, ↓wL_law_135, ↓wL_law_136, ↓wL_law_137, ↓wL_law_140, ↓wL_law_142, ↓wL_law_143, ↓wL_law_145, ↓wL_law_148, ↓wL_law_150, ↓wL_law_152, ↓wL_law_154, ↓wL_law_155, ↓wL_law_157, ↓wL_law_159, ↓wL_law_162, ↓wL_law_163, ↓wL_law_166, ↓wL_law_168, ↓wL_law_169, ↓wL_law_172, ↓wL_law_173, ↓wL_law_174, ↓wL_law_176, ↓wL_law_179, ↓wL_law_181, ↓wL_law_182, ↓wL_law_183, ↓wL_law_184, ↓wL_law_187, ↓wL_law_188, ↓wL_law_191, ↓wL_law_192, ↓wL_law_193, ↓wL_law_196, ↓wL_law_198, ↓wL_law_199, ↓wL_law_202, ↓wL_law_203, ↓wL_law_205, ↓wL_law_208, ↓wL_law_210, ↓wL_law_213, ↓wL_law_214, ↓wL_law_215, ↓wL_law_217, ↓wL_law_220, ↓wL_law_222, ↓wL_law_224, ↓wL_law_225, ↓wL_law_228, ↓wL_law_230, ↓wL_law_232, ↓wL_law_235, ↓wL_law_236, ↓wL_law_239, ↓wL_law_241, ↓wL_law_243, ↓wL_law_246, ↓wL_law_247, ↓wL_law_250, ↓wL_law_251, ↓wL_law_252, ↓wL_law_254, ↓wL_law_256, ↓wL_law_257, ↓wL_law_260, ↓wL_law_261, ↓wL_law_263, ↓wL_law_264, ↓wL_law_265, ↓wL_law_268, ↓wL_law_269, ↓wL_law_271, ↓wL_law_272, ↓wL_law_273, ↓wL_law_276, ↓wL_law_277, ↓wL_law_278, ↓wL_law_281, ↓wL_law_282, ↓wL_law_283, ↓wL_law_285, ↓wL_law_288, ↓wL_law_289, ↓wL_law_292, ↓wL_law_294, ↓wL_law_295, ↓wL_law_296, ↓wL_law_299, ↓wL_law_300, ↓wL_law_301, ↓wL_law_304, ↓wL_law_307, ↓wL_law_308, ↓wL_law_311, ↓wL_law_314, ↓wL_law_315, ↓wL_law_316, ↓wL_law_319, ↓wL_law_322, ↓wL_law_323, ↓wL_law_326, ↓wL_law_328, ↓wL_law_329, ↓wL_law_331, ↓wL_law_332, ↓wL_law_335, ↓wL_law_336, ↓wL_law_339, ↓wL_law_340, ↓wL_law_341, ↓wL_law_342, ↓wL_law_343, ↓wL_law_346, ↓wL_law_347, ↓wL_law_350, ↓wL_law_351, ↓wL_law_352, ↓wL_law_355, ↓wL_law_356, ↓wL_law_359, ↓wL_law_360, ↓wL_law_361, ↓wL_law_364, ↓wL_law_365, ↓wL_law_366, ↓wL_law_369, ↓wL_law_370, ↓wL_law_373, ↓wL_law_374, ↓wL_law_376, ↓wL_law_379, ↓wL_law_380, ↓wL_law_383, ↓wL_law_384, ↓wL_law_385, ↓wL_law_388, ↓wL_law_389, ↓wL_law_392, ↓wL_law_393, ↓wL_law_394, ↓wL_law_396, ↓wL_law_397, ↓wL_law_400, ↓wL_law_401, ↓wL_law_404, ↓wL_law_405, ↓wL_law_406, ↓wL_law_407, ↓wL_law_410, ↓wL_law_411, ↓wL_law_414, ↓wL_law_415, ↓wL_law_416, ↓wL_law_419, ↓wL_law_421, ↓wL_law_424, ↓wL_law_425, ↓wL_law_428, ↓wL_law_430, ↓wL_law_431, ↓wL_law_434, ↓wL_law_435, ↓wL_law_436, ↓wL_law_437, ↓wL_law_438, ↓wL_law_439, ↓wL_law_441, ↓wL_law_442, ↓wL_law_444, ↓wL_law_447, ↓wL_law_448, ↓wL_law_451, ↓wL_law_454, ↓wL_law_455, ↓wL_law_456, ↓wL_law_459, ↓wL_law_462, ↓wL_law_463, ↓wL_law_466, ↓wL_law_469, ↓wL_law_470, ↓wL_law_473, ↓wL_law_474, zQi_def, zQa_def, zQv_def, nI00, nI10, nI11, nI01, true_or, or_true, false_or, or_false, eq_self, true_implies, false_implies, not_true_eq_false, not_false_eq_true, zc9, zc1, zc2, zc3, zc1000, nI_m9, nI_add, pk_mul, ix_nI, vpT, zk_zpi, zn_zpi, zr_zpi, zk_zpa, zn_zpa, zr_zpa, zsz_zpi, zsz_zpa, zi_zpa, zpi_pa, zpa_zpa, true_and, and_true, and_self, lg_self])
  refine c_digest hL.1 ?_
  refine ⟨hL.1.k9, f_setTide hL (by unfold oTide; rw [if_neg (fun q => inF (by omega) (by omega) q.1)]) fun h1 hL => ⟨fun q => absurd rfl q, fun _ => ?_⟩⟩
  refine ⟨hL.1.k9, f_addRock (e := -1) hL (by
    have e : rkC nr (nI 5) (nI 5) (nI 0) = -1 := by unfold rkC; rw [if_neg (fun q => absurd q.2.2.1 (by decide))]
    unfold oRock
    rw [e, if_neg (by decide)]) fun h2 hL => ⟨fun q => absurd rfl q, fun _ => ?_⟩⟩
  refine ⟨hL.1.k9, f_come (e := -1) hL (by
    have e : cmC nk (nI 3) = -1 := by unfold cmC; rw [if_neg (inF (by omega) (by omega))]
    unfold oCome
    rw [e, if_neg (by decide)]) fun h3 hL => ⟨fun q => absurd rfl q, fun _ => ?_⟩⟩
  refine ⟨hL.1.k9, f_change (e := -1) hL (by
    have e : tnC (chP nr nk (nI 0) (nI 0) (nI 0)) nn td (nI 200) = -1 := by unfold tnC; rw [if_neg (fun q => inF (by omega) (by omega) q.2)]
    unfold oChg
    rw [e, if_neg (by decide)]) fun h4 hL => ⟨fun q => absurd rfl q, fun _ => ?_⟩⟩
  refine ⟨hL.1.k9, f_pass (e := -1) hL (by
    have e : psC td (nI 61) = -1 := by unfold psC; rw [if_neg (fun q => absurd q.2 (by decide))]
    unfold oPass
    rw [e, if_neg (by decide)]) fun h5 hL => ⟨fun q => absurd rfl q, fun _ => ?_⟩⟩
  refine ⟨hL.1.k9, f_pass (e := -1) hL (by
    have e : psC td (nI 0) = -1 := by unfold psC; rw [if_neg (fun q => absurd q.1 (by decide))]
    unfold oPass
    rw [e, if_neg (by decide)]) fun h6 hL => ⟨fun q => absurd rfl q, fun _ => ?_⟩⟩
  refine ⟨hL.1.k9, f_later (e := -1) hL (by unfold qLat; rw [if_neg (fun q => inF (by omega) (by omega) q.2.1)]) fun h7 hL => ⟨fun q => absurd rfl q, fun _ => ?_⟩⟩
  refine ⟨hL.1.k9, s_landing hL.1 ?_⟩
  rw [show qLan r nr (nI 3) (nI 0) = -1 by unfold qLan; rw [if_neg (fun q => inF hb.1 (by omega) q.1)]]
  refine ⟨fun q => absurd rfl q, fun _ => ?_⟩
  refine ⟨hL.1.k9, f_restore (e := -2) hL (by
    unfold oRes
    rw [if_pos (inT (by omega) (by omega)), if_pos (by rw [ixx_nI (by omega)]; exact hL.2.2.1.1 0 (by omega))]) fun h8 hL => ⟨fun q => absurd rfl q, fun _ => ?_⟩⟩
  refine c_digest hL.1 ?_
  rw [lg_self]
  refine ⟨fun _ => ?_, fun q => absurd rfl q⟩
  refine c_low (by omega) (by omega) ?_
  rw [nI_add]
  have hlw : lw (v >>> (nI 7 &&& 31)) 30 < 30 := lw_lt _ (by omega)
  obtain ⟨hS, hV, hNS, hM, c1, c2⟩ := hL
  refine ⟨⟨hk, hn⟩, c_comesTrue hS hnr (by omega) (by omega) (by omega) (by omega) hV hNS hS.s5 fun h9 r' n' hK hS' hV' hN' => ⟨fun q => absurd q (by decide), fun _ => ?_⟩⟩
  obtain ⟨e1, e2, e3, -⟩ := hK.2 cp c1 c2
  have hnk8 := hb.2.1
  refine c_isKept hS' hV' ⟨e1.trans hM.1, e2.trans hM.2.1, fun k hk => by rw [e3]; exact hM.2.2 k (by omega)⟩ ⟨fun q => absurd q (by decide), fun _ => ?_⟩
  exact c_isNext hS' ⟨fun q => absurd q (by decide), fun _ => hQ _⟩
end Le
