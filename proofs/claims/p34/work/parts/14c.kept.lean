/-! The law: what is kept. -/
def sO (r : Nat → Int32) (m : Nat) : Nat → Nat
  | 0 => kO r (-9) m
  | i + 1 => sO r m i + kO r (nI i) m
def wO (v : Int32) : Nat → Nat
  | 0 => if v = -9 then 1 else 0
  | i + 1 => wO v i + if v = nI i then 1 else 0
theorem sO_s (r : Nat → Int32) (m : Nat) : ∀ i, sO r (m + 1) i = sO r m i + wO (r (281 + 7 * m + 1)) i
  | 0 => rfl
  | i + 1 => by
    have h1 : kO r (nI i) (m + 1) = kO r (nI i) m + if r (281 + 7 * m + 1) = nI i then 1 else 0 := rfl
    unfold sO wO
    rw [sO_s r m i, h1]
    omega
theorem sO_0 (r : Nat → Int32) : ∀ i, sO r 0 i = 0
  | 0 => rfl
  | i + 1 => by unfold sO; rw [sO_0 r i]; rfl
theorem wO_9 : ∀ i, i ≤ 3 → wO (-9) i = 1
  | 0, _ => rfl
  | i + 1, h => by unfold wO; rw [wO_9 i (by omega), if_neg (by rw [nI_m9' (by omega)]; exact id)]
theorem wO_j {j : Nat} (hj : j < 3) : ∀ i, i ≤ 3 → wO (nI j) i = if j < i then 1 else 0
  | 0, _ => by unfold wO; rw [if_neg (by rw [nI_m9 (by omega)]; exact id), if_neg (by omega)]
  | i + 1, h => by
    unfold wO
    rw [wO_j hj i (by omega)]
    by_cases e : j = i
    · subst e; rw [if_neg (by omega), if_pos rfl, if_pos (by omega)]
    · rw [if_neg (c := nI j = nI i) (by rw [nI_eq (by omega) (by omega)]; exact e)]
      by_cases h2 : j < i
      · rw [if_pos h2, if_pos (by omega)]
      · rw [if_neg h2, if_neg (by omega)]
theorem sO_all {r : Nat → Int32} {nr nk : Nat} (hnr : nr ≤ 3) (hK : KP r nr nk) : ∀ m, m ≤ nk → sO r m nr = m
  | 0, _ => sO_0 r nr
  | m + 1, h => by
    rw [sO_s, sO_all hnr hK m (by omega)]
    rcases hK m (by omega) with e | ⟨j, hj, e⟩
    · rw [e, wO_9 nr hnr]
    · rw [e, wO_j (by omega) nr hnr, if_pos hj]
theorem fst9_m9 {p : Nat → Prop} [DecidablePred p] : ∀ (d i : Nat), i + d < 2147483648 → (fst9 p i d = -9 ↔ ∀ k, i ≤ k → k < i + d → ¬ p k)
  | 0, i, _ => ⟨fun _ k h1 h2 => by omega, fun _ => rfl⟩
  | d + 1, i, hb => by
    unfold fst9
    by_cases h : p i
    · rw [if_pos h, nI_m9 (by omega)]
      exact ⟨fun q => q.elim, fun q => absurd h (q i (by omega) (by omega))⟩
    · rw [if_neg h, fst9_m9 d (i + 1) (by omega)]
      refine ⟨fun q k h1 h2 => ?_, fun q k h1 h2 => q k (by omega) (by omega)⟩
      by_cases e : k = i
      · rw [e]; exact h
      · exact q k (by omega) (by omega)
theorem fO_kO {r : Nat → Int32} {x : Int32} {nk : Nat} (hnk : nk ≤ 8) : (fO r x 0 nk = -9) = (kO r x nk = 0) := by
  apply propext
  unfold fO
  rw [fst9_m9 nk 0 (by omega)]
  have hz : 0 < kO r x nk ↔ _ := ct_zero
  refine ⟨fun q => ?_, fun q k _ hk e => ?_⟩
  · by_cases h0 : 0 < kO r x nk
    · obtain ⟨k, hk, e⟩ := hz.mp h0
      exact absurd e (q k (by omega) (by omega))
    · omega
  · have := hz.mpr ⟨k, by omega, e⟩
    omega
section Kp
variable {E : zE} {Q : Int32 → zH → Prop} {h : zH} {x pp : Nat} {r sv tx came : Nat → Int32} {s L nr nk n td k' n' : Nat}
theorem lK384 (hS : ST h x r sv tx s L nr nk n td) (hV : TV r n) (hq : Q (nI 1) h) (l4 l5 l6 l7 l8 l9 : Option zV) (d : Nat) : ∀ i, i + d = n → zJ E mL_isKept (zQi Q) 384 [some (.inr x), some (.inr pp), some (.inl (nI nk)), some (.inl (nI i)), l4, l5, l6, l7, l8, l9] [] h k' n' := by
  have k9 := hS.k9
  have hI := hS.RI
  have hn := hI.2.2.2.2.1
  induction d with
  | zero =>
    intro i hi
    have e1 : (nI n ≤ nI i) = True := eq_true (by rw [nI_leI (by omega) (by omega)]; omega)
    (refine jL_isKept 200 ?_; simp (disch := omega) only [↓wL_isKept_0, ↓wL_isKept_1, ↓wL_isKept_2, ↓wL_isKept_5, ↓wL_isKept_6, ↓wL_isKept_7, ↓wL_isKept_8, ↓wL_isKept_9, ↓wL_isKept_10, ↓wL_isKept_11, ↓wL_isKept_14, ↓wL_isKept_17, ↓wL_isKept_18, ↓wL_isKept_19, ↓wL_isKept_20, ↓wL_isKept_23, ↓wL_isKept_25, ↓wL_isKept_26, ↓wL_isKept_28, ↓wL_isKept_29, ↓wL_isKept_30, ↓wL_isKept_32, ↓wL_isKept_33, ↓wL_isKept_34, ↓wL_isKept_35, ↓wL_isKept_38, ↓wL_isKept_41, ↓wL_isKept_43, ↓wL_isKept_46, ↓wL_isKept_47, ↓wL_isKept_50, ↓wL_isKept_51, ↓wL_isKept_52, ↓wL_isKept_53, ↓wL_isKept_55, ↓wL_isKept_58, ↓wL_isKept_60, ↓wL_isKept_63, ↓wL_isKept_64, ↓wL_isKept_67, ↓wL_isKept_68, ↓wL_isKept_71, ↓wL_isKept_72, ↓wL_isKept_73, ↓wL_isKept_74, ↓wL_isKept_76, ↓wL_isKept_78, ↓wL_isKept_79, ↓wL_isKept_82, ↓wL_isKept_83, ↓wL_isKept_84, ↓wL_isKept_86, ↓wL_isKept_87, ↓wL_isKept_90, ↓wL_isKept_92, ↓wL_isKept_93, ↓wL_isKept_94, ↓wL_isKept_96, ↓wL_isKept_97, ↓wL_isKept_100, ↓wL_isKept_102, ↓wL_isKept_103, ↓wL_isKept_104, ↓wL_isKept_106, ↓wL_isKept_107, ↓wL_isKept_110, ↓wL_isKept_112, ↓wL_isKept_113, ↓wL_isKept_114, ↓wL_isKept_116, ↓wL_isKept_119, ↓wL_isKept_121, ↓wL_isKept_123, ↓wL_isKept_124, ↓wL_isKept_125, ↓wL_isKept_127, ↓wL_isKept_128, ↓wL_isKept_131, ↓wL_isKept_132, ↓wL_isKept_133, ↓wL_isKept_135, ↓wL_isKept_136, ↓wL_isKept_139, ↓wL_isKept_140, ↓wL_isKept_143, ↓wL_isKept_145, ↓wL_isKept_147, ↓wL_isKept_150, ↓wL_isKept_152, ↓wL_isKept_155, ↓wL_isKept_158, ↓wL_isKept_160, ↓wL_isKept_162, ↓wL_isKept_165, ↓wL_isKept_166, ↓wL_isKept_169, ↓wL_isKept_171, ↓wL_isKept_174, ↓wL_isKept_175, ↓wL_isKept_177, ↓wL_isKept_178, ↓wL_isKept_181, ↓wL_isKept_183, ↓wL_isKept_184, ↓wL_isKept_187, ↓wL_isKept_188, ↓wL_isKept_191, ↓wL_isKept_192, ↓wL_isKept_194, ↓wL_isKept_195, ↓wL_isKept_198, ↓wL_isKept_199, ↓wL_isKept_200, ↓wL_isKept_202, ↓wL_isKept_205, ↓wL_isKept_207, ↓wL_isKept_209, ↓wL_isKept_212, ↓wL_isKept_215, ↓wL_isKept_217, ↓wL_isKept_219, ↓wL_isKept_220, ↓wL_isKept_222, ↓wL_isKept_224, ↓wL_isKept_225, ↓wL_isKept_228, ↓wL_isKept_230, ↓wL_isKept_231, ↓wL_isKept_232, ↓wL_isKept_234, ↓wL_isKept_235, ↓wL_isKept_237, ↓wL_isKept_239, ↓wL_isKept_240, ↓wL_isKept_243, ↓wL_isKept_244, ↓wL_isKept_245, ↓wL_isKept_248, ↓wL_isKept_251, ↓wL_isKept_254, ↓wL_isKept_257, ↓wL_isKept_258, ↓wL_isKept_259, ↓wL_isKept_260, ↓wL_isKept_261, ↓wL_isKept_262, ↓wL_isKept_265, ↓wL_isKept_268, ↓wL_isKept_269, ↓wL_isKept_270, ↓wL_isKept_271, ↓wL_isKept_274, ↓wL_isKept_276, ↓wL_isKept_277, ↓wL_isKept_278, ↓wL_isKept_279, ↓wL_isKept_282, ↓wL_isKept_284, ↓wL_isKept_285, ↓wL_isKept_286, ↓wL_isKept_287, ↓wL_isKept_290, ↓wL_isKept_292, ↓wL_isKept_294, ↓wL_isKept_297, ↓wL_isKept_298, ↓wL_isKept_301, ↓wL_isKept_303, ↓wL_isKept_304, ↓wL_isKept_305, ↓wL_isKept_307, ↓wL_isKept_309, ↓wL_isKept_310, ↓wL_isKept_311, ↓wL_isKept_312, ↓wL_isKept_313, ↓wL_isKept_314, ↓wL_isKept_315, ↓wL_isKept_318, ↓wL_isKept_319, ↓wL_isKept_320, ↓wL_isKept_322, ↓wL_isKept_324, ↓wL_isKept_325, ↓wL_isKept_326, ↓wL_isKept_327, ↓wL_isKept_330, ↓wL_isKept_333, ↓wL_isKept_335, ↓wL_isKept_338, ↓wL_isKept_340, ↓wL_isKept_342, ↓wL_isKept_345, ↓wL_isKept_347, ↓wL_isKept_348, ↓wL_isKept_349, ↓wL_isKept_350, ↓wL_isKept_353, ↓wL_isKept_354, ↓wL_isKept_355, ↓wL_isKept_356, ↓wL_isKept_358, ↓wL_isKept_361, ↓wL_isKept_362, ↓wL_isKept_363, ↓wL_isKept_364, ↓wL_isKept_367, ↓wL_isKept_368, ↓wL_isKept_369, ↓wL_isKept_370, ↓wL_isKept_371, ↓wL_isKept_374, ↓wL_isKept_375, ↓wL_isKept_376, ↓wL_isKept_379, ↓wL_isKept_382, ↓wL_isKept_383, ↓wL_isKept_384, ↓wL_isKept_385, ↓wL_isKept_386, ↓wL_isKept_387, ↓wL_isKept_390, ↓wL_isKept_393, ↓wL_isKept_394, ↓wL_isKept_395, ↓wL_isKept_396, ↓wL_isKept_399, ↓wL_isKept_400, ↓wL_isKept_401, ↓wL_isKept_404, ↓wL_isKept_407, ↓wL_isKept_408, ↓wL_isKept_409, ↓wL_isKept_410, ↓wL_isKept_413, ↓wL_isKept_416, ↓wL_isKept_417, ↓wL_isKept_418, ↓wL_isKept_419, ↓wL_isKept_422, ↓wL_isKept_423, ↓wL_isKept_424, ↓wL_isKept_425, ↓wL_isKept_428, ↓wL_isKept_431, ↓wL_isKept_432, ↓wL_isKept_433, ↓wL_isKept_434, ↓wL_isKept_437, ↓wL_isKept_438, ↓wL_isKept_441, ↓wL_isKept_442, ↓wL_isKept_445, ↓wL_isKept_446, ↓wL_isKept_447, ↓wL_isKept_448, ↓wL_isKept_449, ↓wL_isKept_452, ↓wL_isKept_455, ↓wL_isKept_456, ↓wL_isKept_459, ↓wL_isKept_460, ↓wL_isKept_463, ↓wL_isKept_464, ↓wL_isKept_465, ↓wL_isKept_468, ↓wL_isKept_471, ↓wL_isKept_472, ↓wL_isKept_473, ↓wL_isKept_474, ↓wL_isKept_477, ↓wL_isKept_480, ↓wL_isKept_481, ↓wL_isKept_484, ↓wL_isKept_485, zQi_def, zQa_def, zQv_def, nI00, nI10, nI11, nI01, true_or, or_true, false_or, or_false, eq_self, true_implies, false_implies, not_true_eq_false, not_false_eq_true, zc9, zc1, zc2, zc3, zc1000, nI_m9, nI_add, pk_mul, ix_nI, vpT, zk_zpi, zn_zpi, zr_zpi, zk_zpa, zn_zpa, zr_zpa, zsz_zpi, zsz_zpa, zi_zpa, zpi_pa, zpa_zpa, true_and, and_true, and_self, k9])
    refine s_count hS ?_
    rw [qCnt3, hI.2.2.1]
    simp only [e1, true_implies, not_true_eq_false, false_implies, and_true]
    refine ⟨k9, s_count hS ?_⟩
    rw [qCnt2, hI.2.1]
    exact ⟨fun q => absurd rfl q, fun _ => hq⟩
  | succ d ih =>
    intro i hi
    have e1 : (nI n ≤ nI i) = False := eq_false (by rw [nI_leI (by omega) (by omega)]; omega)
    have ih' := ih (i + 1) (by omega)
    (refine jL_isKept 200 ?_; simp (disch := omega) only [↓wL_isKept_0, ↓wL_isKept_1, ↓wL_isKept_2, ↓wL_isKept_5, ↓wL_isKept_6, ↓wL_isKept_7, ↓wL_isKept_8, ↓wL_isKept_9, ↓wL_isKept_10, ↓wL_isKept_11, ↓wL_isKept_14, ↓wL_isKept_17, ↓wL_isKept_18, ↓wL_isKept_19, ↓wL_isKept_20, ↓wL_isKept_23, ↓wL_isKept_25, ↓wL_isKept_26, ↓wL_isKept_28, ↓wL_isKept_29, ↓wL_isKept_30, ↓wL_isKept_32, ↓wL_isKept_33, ↓wL_isKept_34, ↓wL_isKept_35, ↓wL_isKept_38, ↓wL_isKept_41, ↓wL_isKept_43, ↓wL_isKept_46, ↓wL_isKept_47, ↓wL_isKept_50, ↓wL_isKept_51, ↓wL_isKept_52, ↓wL_isKept_53, ↓wL_isKept_55, ↓wL_isKept_58, ↓wL_isKept_60, ↓wL_isKept_63, ↓wL_isKept_64, ↓wL_isKept_67, ↓wL_isKept_68, ↓wL_isKept_71, ↓wL_isKept_72, ↓wL_isKept_73, ↓wL_isKept_74, ↓wL_isKept_76, ↓wL_isKept_78, ↓wL_isKept_79, ↓wL_isKept_82, ↓wL_isKept_83, ↓wL_isKept_84, ↓wL_isKept_86, ↓wL_isKept_87, ↓wL_isKept_90, ↓wL_isKept_92, ↓wL_isKept_93, ↓wL_isKept_94, ↓wL_isKept_96, ↓wL_isKept_97, ↓wL_isKept_100, ↓wL_isKept_102, ↓wL_isKept_103, ↓wL_isKept_104, ↓wL_isKept_106, ↓wL_isKept_107, ↓wL_isKept_110, ↓wL_isKept_112, ↓wL_isKept_113, ↓wL_isKept_114, ↓wL_isKept_116, ↓wL_isKept_119, ↓wL_isKept_121, ↓wL_isKept_123, ↓wL_isKept_124, ↓wL_isKept_125, ↓wL_isKept_127, ↓wL_isKept_128, ↓wL_isKept_131, ↓wL_isKept_132, ↓wL_isKept_133, ↓wL_isKept_135, ↓wL_isKept_136, ↓wL_isKept_139, ↓wL_isKept_140, ↓wL_isKept_143, ↓wL_isKept_145, ↓wL_isKept_147, ↓wL_isKept_150, ↓wL_isKept_152, ↓wL_isKept_155, ↓wL_isKept_158, ↓wL_isKept_160, ↓wL_isKept_162, ↓wL_isKept_165, ↓wL_isKept_166, ↓wL_isKept_169, ↓wL_isKept_171, ↓wL_isKept_174, ↓wL_isKept_175, ↓wL_isKept_177, ↓wL_isKept_178, ↓wL_isKept_181, ↓wL_isKept_183, ↓wL_isKept_184, ↓wL_isKept_187, ↓wL_isKept_188, ↓wL_isKept_191, ↓wL_isKept_192, ↓wL_isKept_194, ↓wL_isKept_195, ↓wL_isKept_198, ↓wL_isKept_199, ↓wL_isKept_200, ↓wL_isKept_202, ↓wL_isKept_205, ↓wL_isKept_207, ↓wL_isKept_209, ↓wL_isKept_212, ↓wL_isKept_215, ↓wL_isKept_217, ↓wL_isKept_219, ↓wL_isKept_220, ↓wL_isKept_222, ↓wL_isKept_224, ↓wL_isKept_225, ↓wL_isKept_228, ↓wL_isKept_230, ↓wL_isKept_231, ↓wL_isKept_232, ↓wL_isKept_234, ↓wL_isKept_235, ↓wL_isKept_237, ↓wL_isKept_239, ↓wL_isKept_240, ↓wL_isKept_243, ↓wL_isKept_244, ↓wL_isKept_245, ↓wL_isKept_248, ↓wL_isKept_251, ↓wL_isKept_254, ↓wL_isKept_257, ↓wL_isKept_258, ↓wL_isKept_259, ↓wL_isKept_260, ↓wL_isKept_261, ↓wL_isKept_262, ↓wL_isKept_265, ↓wL_isKept_268, ↓wL_isKept_269, ↓wL_isKept_270, ↓wL_isKept_271, ↓wL_isKept_274, ↓wL_isKept_276, ↓wL_isKept_277, ↓wL_isKept_278, ↓wL_isKept_279, ↓wL_isKept_282, ↓wL_isKept_284, ↓wL_isKept_285, ↓wL_isKept_286, ↓wL_isKept_287, ↓wL_isKept_290, ↓wL_isKept_292, ↓wL_isKept_294, ↓wL_isKept_297, ↓wL_isKept_298, ↓wL_isKept_301, ↓wL_isKept_303, ↓wL_isKept_304, ↓wL_isKept_305, ↓wL_isKept_307, ↓wL_isKept_309, ↓wL_isKept_310, ↓wL_isKept_311, ↓wL_isKept_312, ↓wL_isKept_313, ↓wL_isKept_314, ↓wL_isKept_315, ↓wL_isKept_318, ↓wL_isKept_319, ↓wL_isKept_320, ↓wL_isKept_322, ↓wL_isKept_324, ↓wL_isKept_325, ↓wL_isKept_326, ↓wL_isKept_327, ↓wL_isKept_330, ↓wL_isKept_333, ↓wL_isKept_335, ↓wL_isKept_338, ↓wL_isKept_340, ↓wL_isKept_342, ↓wL_isKept_345, ↓wL_isKept_347, ↓wL_isKept_348, ↓wL_isKept_349, ↓wL_isKept_350, ↓wL_isKept_353, ↓wL_isKept_354, ↓wL_isKept_355, ↓wL_isKept_356, ↓wL_isKept_358, ↓wL_isKept_361, ↓wL_isKept_362, ↓wL_isKept_363, ↓wL_isKept_364, ↓wL_isKept_367, ↓wL_isKept_368, ↓wL_isKept_369, ↓wL_isKept_370, ↓wL_isKept_371, ↓wL_isKept_374, ↓wL_isKept_375, ↓wL_isKept_376, ↓wL_isKept_379, ↓wL_isKept_382, ↓wL_isKept_383, ↓wL_isKept_384, ↓wL_isKept_385, ↓wL_isKept_386, ↓wL_isKept_387, ↓wL_isKept_390, ↓wL_isKept_393, ↓wL_isKept_394, ↓wL_isKept_395, ↓wL_isKept_396, ↓wL_isKept_399, ↓wL_isKept_400, ↓wL_isKept_401, ↓wL_isKept_404, ↓wL_isKept_407, ↓wL_isKept_408, ↓wL_isKept_409, ↓wL_isKept_410, ↓wL_isKept_413, ↓wL_isKept_416, ↓wL_isKept_417, ↓wL_isKept_418, ↓wL_isKept_419, ↓wL_isKept_422, ↓wL_isKept_423, ↓wL_isKept_424, ↓wL_isKept_425, ↓wL_isKept_428, ↓wL_isKept_431, ↓wL_isKept_432, ↓wL_isKept_433, ↓wL_isKept_434, ↓wL_isKept_437, ↓wL_isKept_438, ↓wL_isKept_441, ↓wL_isKept_442, ↓wL_isKept_445, ↓wL_isKept_446, ↓wL_isKept_447, ↓wL_isKept_448, ↓wL_isKept_449, ↓wL_isKept_452, ↓wL_isKept_455, ↓wL_isKept_456, ↓wL_isKept_459, ↓wL_isKept_460, ↓wL_isKept_463, ↓wL_isKept_464, ↓wL_isKept_465, ↓wL_isKept_468, ↓wL_isKept_471, ↓wL_isKept_472, ↓wL_isKept_473, ↓wL_isKept_474, ↓wL_isKept_477, ↓wL_isKept_480, ↓wL_isKept_481, ↓wL_isKept_484, ↓wL_isKept_485, zQi_def, zQa_def, zQv_def, nI00, nI10, nI11, nI01, true_or, or_true, false_or, or_false, eq_self, true_implies, false_implies, not_true_eq_false, not_false_eq_true, zc9, zc1, zc2, zc3, zc1000, nI_m9, nI_add, pk_mul, ix_nI, vpT, zk_zpi, zn_zpi, zr_zpi, zk_zpa, zn_zpa, zr_zpa, zsz_zpi, zsz_zpa, zi_zpa, zpi_pa, zpa_zpa, true_and, and_true, and_self, k9])
    refine s_count hS ?_
    rw [qCnt3, hI.2.2.1]
    simp only [e1, false_implies, not_false_eq_true, true_implies, true_and]
    have hT := hI.2.2.2.2.2.1 i (by omega)
    have hX := (hS.XI.2.2.2.2.2 i (by omega)).1
    have v1 := (hV i (by omega)).1
    have f1 : ¬ r (337 + 8 * i + 2) < r 0 := by
      obtain ⟨dd, h1, h2, e⟩ := hX
      rw [e, hI.2.2.2.1, Int32.not_lt, nI_leI (by omega) (by omega)]
      exact h1
    have f3 : (r (337 + 8 * i + 0) = nI 2 ∧ ¬ r (337 + 8 * i + 5) < 0) ∨ (r (337 + 8 * i + 0) ≠ nI 2 ∧ r (337 + 8 * i + 5) < 0) := by
      rcases hT.2.2.2.2 with ⟨h1, -, -, u, hu, e⟩ | ⟨h1, e⟩
      · exact Or.inl ⟨h1, by rw [e, nI_nneg (by omega)]; exact id⟩
      · exact Or.inr ⟨h1, by rw [e]; exact m9neg⟩
    have f2 : r (337 + 8 * i + 3) < 0 ∨ r (337 + 8 * i + 3) ≠ r (337 + 8 * i + 4) := v1.imp (fun e => by rw [e]; exact m9neg) id
    have g0 : qTur r n (nI i) (nI 0) = r (337 + 8 * i + 0) := qTur_i (by omega) (by omega) (by omega)
    have g2 : qTur r n (nI i) (nI 2) = r (337 + 8 * i + 2) := qTur_i (by omega) (by omega) (by omega)
    have g3 : qTur r n (nI i) (nI 3) = r (337 + 8 * i + 3) := qTur_i (by omega) (by omega) (by omega)
    have g4 : qTur r n (nI i) (nI 4) = r (337 + 8 * i + 4) := qTur_i (by omega) (by omega) (by omega)
    have g5 : qTur r n (nI i) (nI 5) = r (337 + 8 * i + 5) := qTur_i (by omega) (by omega) (by omega)
    clear hX hT v1 hV ih
    generalize r (337 + 8 * i + 0) = w0 at *
    generalize r (337 + 8 * i + 2) = w2 at *
    generalize r (337 + 8 * i + 3) = w3 at *
    generalize r (337 + 8 * i + 4) = w4 at *
    generalize r (337 + 8 * i + 5) = w5 at *
    repeat' (first | (with_reducible assumption) | (with_reducible apply And.intro) | (with_reducible intro _) | (refine s_turn hS ?_; simp only [g0, g2, g3, g4, g5]) | (refine s_count hS ?_; simp only [qCnt0]))
    all_goals (exfalso; grind)
end Kp
