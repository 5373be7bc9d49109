/-! The law: call by call. -/
theorem IV_WR {h : zH} {x s L : Nat} {F : Nat → Nat → Int32} (hV : IVF h x F s L) : ∃ nr nk n td, WR h (x + 1 + 1) (F 1) nr nk n td ∧ RI (F 1) nr nk n td := by
  obtain ⟨hX, ⟨o, hH⟩, hT⟩ := hV.1
  obtain ⟨nr, nk, n, td, hW⟩ := hH.2.2.2.2.1.1
  refine ⟨nr, nk, n, td, hW, ?_⟩
  obtain ⟨-, p, -, hR⟩ := hW
  exact hR.1
theorem law_D {E : zE} {x s L : Nat} {h : zH} {F : Nat → Nat → Int32} {v : Int32} {M9 : zM} {av : List zV} {K : zH → Prop} {K' : Int32 → zH → Prop} (hV : IVF h x F s L)
    (hr : ∀ (h1 : zH) (Qr : Int32 → zH → Prop), MS h1 (x + 348) → (∀ F', SME F F' → Qr v (MST h1 (x + 348) F')) → zMi E M9 av (MST h1 (x + 348) F) Qr) (hK : ∀ h', IV h' x → K h') : ∀ h', OUT h h' x (x + 348) → CI' h' x (F 1) (F 4) (F 5) s L → zk h' (x + 348) = 10 ∧ zMi E M9 av h' (fun r' h => (v = r' → K h) ∧ (¬ v = r' → K' r' h)) := by
  obtain ⟨hz, i5, hs, i7, hL⟩ := hV.2.2.1
  intro h' hO hC
  obtain ⟨hm, e⟩ := IVF_out hV hO
  refine ⟨hm.1, ?_⟩
  have t := hr h' (fun r' h => (v = r' → K h) ∧ (¬ v = r' → K' r' h)) hm (fun F' hE => ?_)
  · rw [e] at t; exact t
  · obtain ⟨e1, e2, e3, e4, e5, e6⟩ := hE
    exact ⟨fun _ => hK _ (IV_of hV hO hC e1 e2 e6 e4 (e3.trans i5) (e5.trans i7) hs), fun q => absurd rfl q⟩
set_option maxRecDepth 100000 in
theorem br_0 {E : zE} {Q : Option zV → zH → Prop} {x i k n : Nat} {h : zH} (h5 : i + 5 ≤ zEL E) (hL : zEL E ≤ 2560) (hV : IV h x) (hk : k + 41 ≤ 600000) (hn : n + 473 ≤ 7302250) (hK : ∀ h' k' n', k' ≤ k + 41 → n' ≤ n + 473 → IV h' x → zJ E mL_law Q 18 [some (.inr (zEb E + 1)), some (.inr x), some (.inr (x + 348)), some (.inl (nI (i + 5)))] [] h' k' n') : zwp E kL_law Q 188 172 [some (.inr (zEb E + 1)), some (.inr x), some (.inr (x + 348)), some (.inl (nI i))] [] h k n := by
  obtain ⟨F, s, L, hV⟩ := hV
  obtain ⟨nr, nk, n0, td, hW, hI⟩ := IV_WR hV
  have hC := hV.1
  have hM := hV.2.2.1
  have hxk := hC.1.1.1
  simp (disch := omega) only [↓wL_law_172, ↓wL_law_173, ↓wL_law_174, ↓wL_law_175, ↓wL_law_176, ↓wL_law_177, ↓wL_law_178, ↓wL_law_179, ↓wL_law_180, ↓wL_law_181, ↓wL_law_182, ↓wL_law_183, ↓wL_law_186, ↓wL_law_187, ↓wL_law_188, ↓wL_law_189, ↓wL_law_190, ↓wL_law_191, ↓wL_law_192, ↓wL_law_193, ↓wL_law_194, ↓wL_law_195, ↓wL_law_196, ↓wL_law_197, ↓wL_law_200, ↓wL_law_203, ↓wL_law_204, ↓wL_law_1135, ↓wL_law_1138, zQi_def, zQa_def, zQv_def, nI00, nI10, nI11, nI01, true_or, or_true, false_or, or_false, eq_self, true_implies, false_implies, not_true_eq_false, not_false_eq_true, zc9, zc1, zc2, zc3, zc1000, nI_m9, nI_add, pk_mul, ix_nI, vpT, zk_zpi, zn_zpi, zr_zpi, zk_zpa, zn_zpa, zr_zpa, zsz_zpi, zsz_zpa, zi_zpa, zpi_pa, zpa_zpa, true_and, and_true, and_self]
  exact ⟨hxk, pb_setTide hC hW (law_A hV (fun h1 Qr hm hq => p_setTide hm hM hI hq) (fun h' hi => hK h' _ _ (by omega) (by omega) hi))⟩
set_option maxRecDepth 100000 in
theorem br_1 {E : zE} {Q : Option zV → zH → Prop} {x i k n : Nat} {h : zH} (h5 : i + 5 ≤ zEL E) (hL : zEL E ≤ 2560) (hV : IV h x) (hk : k + 41 ≤ 600000) (hn : n + 473 ≤ 7302250) (hK : ∀ h' k' n', k' ≤ k + 41 → n' ≤ n + 473 → IV h' x → zJ E mL_law Q 18 [some (.inr (zEb E + 1)), some (.inr x), some (.inr (x + 348)), some (.inl (nI (i + 5)))] [] h' k' n') : zwp E kL_law Q 188 205 [some (.inr (zEb E + 1)), some (.inr x), some (.inr (x + 348)), some (.inl (nI i))] [] h k n := by
  obtain ⟨F, s, L, hV⟩ := hV
  obtain ⟨nr, nk, n0, td, hW, hI⟩ := IV_WR hV
  have hC := hV.1
  have hM := hV.2.2.1
  have hxk := hC.1.1.1
  simp (disch := omega) only [↓wL_law_205, ↓wL_law_206, ↓wL_law_207, ↓wL_law_208, ↓wL_law_209, ↓wL_law_210, ↓wL_law_211, ↓wL_law_212, ↓wL_law_213, ↓wL_law_214, ↓wL_law_215, ↓wL_law_216, ↓wL_law_219, ↓wL_law_220, ↓wL_law_221, ↓wL_law_222, ↓wL_law_223, ↓wL_law_224, ↓wL_law_225, ↓wL_law_226, ↓wL_law_227, ↓wL_law_228, ↓wL_law_229, ↓wL_law_230, ↓wL_law_233, ↓wL_law_236, ↓wL_law_237, ↓wL_law_1135, ↓wL_law_1138, zQi_def, zQa_def, zQv_def, nI00, nI10, nI11, nI01, true_or, or_true, false_or, or_false, eq_self, true_implies, false_implies, not_true_eq_false, not_false_eq_true, zc9, zc1, zc2, zc3, zc1000, nI_m9, nI_add, pk_mul, ix_nI, vpT, zk_zpi, zn_zpi, zr_zpi, zk_zpa, zn_zpa, zr_zpa, zsz_zpi, zsz_zpa, zi_zpa, zpi_pa, zpa_zpa, true_and, and_true, and_self]
  exact ⟨hxk, pb_setSwell hC hW (law_A hV (fun h1 Qr hm hq => p_setSwell hm hM hI hq) (fun h' hi => hK h' _ _ (by omega) (by omega) hi))⟩
set_option maxRecDepth 100000 in
theorem br_2 {E : zE} {Q : Option zV → zH → Prop} {x i k n : Nat} {h : zH} (h5 : i + 5 ≤ zEL E) (hL : zEL E ≤ 2560) (hV : IV h x) (hk : k + 41 ≤ 600000) (hn : n + 473 ≤ 7302250) (hK : ∀ h' k' n', k' ≤ k + 41 → n' ≤ n + 473 → IV h' x → zJ E mL_law Q 18 [some (.inr (zEb E + 1)), some (.inr x), some (.inr (x + 348)), some (.inl (nI (i + 5)))] [] h' k' n') : zwp E kL_law Q 188 238 [some (.inr (zEb E + 1)), some (.inr x), some (.inr (x + 348)), some (.inl (nI i))] [] h k n := by
  obtain ⟨F, s, L, hV⟩ := hV
  obtain ⟨nr, nk, n0, td, hW, hI⟩ := IV_WR hV
  have hC := hV.1
  have hM := hV.2.2.1
  have hxk := hC.1.1.1
  simp (disch := omega) only [↓wL_law_238, ↓wL_law_239, ↓wL_law_240, ↓wL_law_241, ↓wL_law_242, ↓wL_law_243, ↓wL_law_244, ↓wL_law_245, ↓wL_law_246, ↓wL_law_247, ↓wL_law_248, ↓wL_law_249, ↓wL_law_250, ↓wL_law_251, ↓wL_law_252, ↓wL_law_253, ↓wL_law_254, ↓wL_law_257, ↓wL_law_258, ↓wL_law_259, ↓wL_law_260, ↓wL_law_261, ↓wL_law_262, ↓wL_law_263, ↓wL_law_264, ↓wL_law_265, ↓wL_law_266, ↓wL_law_267, ↓wL_law_268, ↓wL_law_269, ↓wL_law_270, ↓wL_law_271, ↓wL_law_272, ↓wL_law_273, ↓wL_law_276, ↓wL_law_279, ↓wL_law_280, ↓wL_law_1135, ↓wL_law_1138, zQi_def, zQa_def, zQv_def, nI00, nI10, nI11, nI01, true_or, or_true, false_or, or_false, eq_self, true_implies, false_implies, not_true_eq_false, not_false_eq_true, zc9, zc1, zc2, zc3, zc1000, nI_m9, nI_add, pk_mul, ix_nI, vpT, zk_zpi, zn_zpi, zr_zpi, zk_zpa, zn_zpa, zr_zpa, zsz_zpi, zsz_zpa, zi_zpa, zpi_pa, zpa_zpa, true_and, and_true, and_self]
  exact ⟨hxk, pb_addRock hC hW (law_A hV (fun h1 Qr hm hq => p_addRock hm hM hI hq) (fun h' hi => hK h' _ _ (by omega) (by omega) hi))⟩
set_option maxRecDepth 100000 in
theorem br_3 {E : zE} {Q : Option zV → zH → Prop} {x i k n : Nat} {h : zH} (h5 : i + 5 ≤ zEL E) (hL : zEL E ≤ 2560) (hV : IV h x) (hk : k + 41 ≤ 600000) (hn : n + 473 ≤ 7302250) (hK : ∀ h' k' n', k' ≤ k + 41 → n' ≤ n + 473 → IV h' x → zJ E mL_law Q 18 [some (.inr (zEb E + 1)), some (.inr x), some (.inr (x + 348)), some (.inl (nI (i + 5)))] [] h' k' n') : zwp E kL_law Q 188 281 [some (.inr (zEb E + 1)), some (.inr x), some (.inr (x + 348)), some (.inl (nI i))] [] h k n := by
  obtain ⟨F, s, L, hV⟩ := hV
  obtain ⟨nr, nk, n0, td, hW, hI⟩ := IV_WR hV
  have hC := hV.1
  have hM := hV.2.2.1
  have hxk := hC.1.1.1
  simp (disch := omega) only [↓wL_law_281, ↓wL_law_282, ↓wL_law_283, ↓wL_law_284, ↓wL_law_285, ↓wL_law_286, ↓wL_law_287, ↓wL_law_288, ↓wL_law_289, ↓wL_law_290, ↓wL_law_291, ↓wL_law_292, ↓wL_law_293, ↓wL_law_294, ↓wL_law_295, ↓wL_law_296, ↓wL_law_297, ↓wL_law_300, ↓wL_law_301, ↓wL_law_302, ↓wL_law_303, ↓wL_law_304, ↓wL_law_305, ↓wL_law_306, ↓wL_law_307, ↓wL_law_308, ↓wL_law_309, ↓wL_law_310, ↓wL_law_311, ↓wL_law_312, ↓wL_law_313, ↓wL_law_314, ↓wL_law_315, ↓wL_law_316, ↓wL_law_319, ↓wL_law_322, ↓wL_law_323, ↓wL_law_1135, ↓wL_law_1138, zQi_def, zQa_def, zQv_def, nI00, nI10, nI11, nI01, true_or, or_true, false_or, or_false, eq_self, true_implies, false_implies, not_true_eq_false, not_false_eq_true, zc9, zc1, zc2, zc3, zc1000, nI_m9, nI_add, pk_mul, ix_nI, vpT, zk_zpi, zn_zpi, zr_zpi, zk_zpa, zn_zpa, zr_zpa, zsz_zpi, zsz_zpa, zi_zpa, zpi_pa, zpa_zpa, true_and, and_true, and_self]
  exact ⟨hxk, pb_setKeep hC hW (law_A hV (fun h1 Qr hm hq => p_setKeep hm hM hI hq) (fun h' hi => hK h' _ _ (by omega) (by omega) hi))⟩
set_option maxRecDepth 100000 in
theorem br_4 {E : zE} {Q : Option zV → zH → Prop} {x i k n : Nat} {h : zH} (h5 : i + 5 ≤ zEL E) (hL : zEL E ≤ 2560) (hV : IV h x) (hk : k + 41 ≤ 600000) (hn : n + 473 ≤ 7302250) (hK : ∀ h' k' n', k' ≤ k + 41 → n' ≤ n + 473 → IV h' x → zJ E mL_law Q 18 [some (.inr (zEb E + 1)), some (.inr x), some (.inr (x + 348)), some (.inl (nI (i + 5)))] [] h' k' n') : zwp E kL_law Q 188 324 [some (.inr (zEb E + 1)), some (.inr x), some (.inr (x + 348)), some (.inl (nI i))] [] h k n := by
  obtain ⟨F, s, L, hV⟩ := hV
  obtain ⟨nr, nk, n0, td, hW, hI⟩ := IV_WR hV
  have hC := hV.1
  have hM := hV.2.2.1
  have hxk := hC.1.1.1
  simp (disch := omega) only [↓wL_law_324, ↓wL_law_325, ↓wL_law_326, ↓wL_law_327, ↓wL_law_328, ↓wL_law_329, ↓wL_law_330, ↓wL_law_333, ↓wL_law_334, ↓wL_law_335, ↓wL_law_336, ↓wL_law_337, ↓wL_law_338, ↓wL_law_339, ↓wL_law_342, ↓wL_law_345, ↓wL_law_346, ↓wL_law_1135, ↓wL_law_1138, zQi_def, zQa_def, zQv_def, nI00, nI10, nI11, nI01, true_or, or_true, false_or, or_false, eq_self, true_implies, false_implies, not_true_eq_false, not_false_eq_true, zc9, zc1, zc2, zc3, zc1000, nI_m9, nI_add, pk_mul, ix_nI, vpT, zk_zpi, zn_zpi, zr_zpi, zk_zpa, zn_zpa, zr_zpa, zsz_zpi, zsz_zpa, zi_zpa, zpi_pa, zpa_zpa, true_and, and_true, and_self]
  exact ⟨hxk, pb_come hC hW (law_A hV (fun h1 Qr hm hq => p_come hm hM hI hq) (fun h' hi => hK h' _ _ (by omega) (by omega) hi))⟩
set_option maxRecDepth 100000 in
theorem br_5 {E : zE} {Q : Option zV → zH → Prop} {x i k n : Nat} {h : zH} (h5 : i + 5 ≤ zEL E) (hL : zEL E ≤ 2560) (hV : IV h x) (hk : k + 41 ≤ 600000) (hn : n + 473 ≤ 7302250) (hK : ∀ h' k' n', k' ≤ k + 41 → n' ≤ n + 473 → IV h' x → zJ E mL_law Q 18 [some (.inr (zEb E + 1)), some (.inr x), some (.inr (x + 348)), some (.inl (nI (i + 5)))] [] h' k' n') : zwp E kL_law Q 188 347 [some (.inr (zEb E + 1)), some (.inr x), some (.inr (x + 348)), some (.inl (nI i))] [] h k n := by
  obtain ⟨F, s, L, hV⟩ := hV
  obtain ⟨nr, nk, n0, td, hW, hI⟩ := IV_WR hV
  have hC := hV.1
  have hM := hV.2.2.1
  have hxk := hC.1.1.1
  simp (disch := omega) only [↓wL_law_347, ↓wL_law_348, ↓wL_law_349, ↓wL_law_350, ↓wL_law_351, ↓wL_law_352, ↓wL_law_353, ↓wL_law_354, ↓wL_law_355, ↓wL_law_356, ↓wL_law_357, ↓wL_law_358, ↓wL_law_359, ↓wL_law_360, ↓wL_law_361, ↓wL_law_362, ↓wL_law_363, ↓wL_law_364, ↓wL_law_365, ↓wL_law_366, ↓wL_law_367, ↓wL_law_368, ↓wL_law_371, ↓wL_law_372, ↓wL_law_373, ↓wL_law_374, ↓wL_law_375, ↓wL_law_376, ↓wL_law_377, ↓wL_law_378, ↓wL_law_379, ↓wL_law_380, ↓wL_law_381, ↓wL_law_382, ↓wL_law_383, ↓wL_law_384, ↓wL_law_385, ↓wL_law_386, ↓wL_law_387, ↓wL_law_388, ↓wL_law_389, ↓wL_law_390, ↓wL_law_391, ↓wL_law_392, ↓wL_law_395, ↓wL_law_398, ↓wL_law_399, ↓wL_law_1135, ↓wL_law_1138, zQi_def, zQa_def, zQv_def, nI00, nI10, nI11, nI01, true_or, or_true, false_or, or_false, eq_self, true_implies, false_implies, not_true_eq_false, not_false_eq_true, zc9, zc1, zc2, zc3, zc1000, nI_m9, nI_add, pk_mul, ix_nI, vpT, zk_zpi, zn_zpi, zr_zpi, zk_zpa, zn_zpa, zr_zpa, zsz_zpi, zsz_zpa, zi_zpa, zpi_pa, zpa_zpa, true_and, and_true, and_self]
  exact ⟨hxk, pb_relieve hC hW (law_A hV (fun h1 Qr hm hq => p_relieve hm hM hI hq) (fun h' hi => hK h' _ _ (by omega) (by omega) hi))⟩
set_option maxRecDepth 100000 in
theorem br_6 {E : zE} {Q : Option zV → zH → Prop} {x i k n : Nat} {h : zH} (h5 : i + 5 ≤ zEL E) (hL : zEL E ≤ 2560) (hV : IV h x) (hk : k + 41 ≤ 600000) (hn : n + 473 ≤ 7302250) (hK : ∀ h' k' n', k' ≤ k + 41 → n' ≤ n + 473 → IV h' x → zJ E mL_law Q 18 [some (.inr (zEb E + 1)), some (.inr x), some (.inr (x + 348)), some (.inl (nI (i + 5)))] [] h' k' n') : zwp E kL_law Q 188 400 [some (.inr (zEb E + 1)), some (.inr x), some (.inr (x + 348)), some (.inl (nI i))] [] h k n := by
  obtain ⟨F, s, L, hV⟩ := hV
  obtain ⟨nr, nk, n0, td, hW, hI⟩ := IV_WR hV
  have hC := hV.1
  have hM := hV.2.2.1
  have hxk := hC.1.1.1
  simp (disch := omega) only [↓wL_law_400, ↓wL_law_401, ↓wL_law_402, ↓wL_law_403, ↓wL_law_404, ↓wL_law_405, ↓wL_law_406, ↓wL_law_407, ↓wL_law_408, ↓wL_law_409, ↓wL_law_410, ↓wL_law_411, ↓wL_law_412, ↓wL_law_413, ↓wL_law_414, ↓wL_law_415, ↓wL_law_416, ↓wL_law_417, ↓wL_law_418, ↓wL_law_419, ↓wL_law_420, ↓wL_law_421, ↓wL_law_424, ↓wL_law_425, ↓wL_law_426, ↓wL_law_427, ↓wL_law_428, ↓wL_law_429, ↓wL_law_430, ↓wL_law_431, ↓wL_law_432, ↓wL_law_433, ↓wL_law_434, ↓wL_law_435, ↓wL_law_436, ↓wL_law_437, ↓wL_law_438, ↓wL_law_439, ↓wL_law_440, ↓wL_law_441, ↓wL_law_442, ↓wL_law_443, ↓wL_law_444, ↓wL_law_445, ↓wL_law_448, ↓wL_law_451, ↓wL_law_452, ↓wL_law_1135, ↓wL_law_1138, zQi_def, zQa_def, zQv_def, nI00, nI10, nI11, nI01, true_or, or_true, false_or, or_false, eq_self, true_implies, false_implies, not_true_eq_false, not_false_eq_true, zc9, zc1, zc2, zc3, zc1000, nI_m9, nI_add, pk_mul, ix_nI, vpT, zk_zpi, zn_zpi, zr_zpi, zk_zpa, zn_zpa, zr_zpa, zsz_zpi, zsz_zpa, zi_zpa, zpi_pa, zpa_zpa, true_and, and_true, and_self]
  exact ⟨hxk, pb_change hC hW (law_A hV (fun h1 Qr hm hq => p_change hm hM hI hq) (fun h' hi => hK h' _ _ (by omega) (by omega) hi))⟩
set_option maxRecDepth 100000 in
theorem br_7 {E : zE} {Q : Option zV → zH → Prop} {x i k n : Nat} {h : zH} (h5 : i + 5 ≤ zEL E) (hL : zEL E ≤ 2560) (hV : IV h x) (hk : k + 41 ≤ 600000) (hn : n + 473 ≤ 7302250) (hK : ∀ h' k' n', k' ≤ k + 41 → n' ≤ n + 473 → IV h' x → zJ E mL_law Q 18 [some (.inr (zEb E + 1)), some (.inr x), some (.inr (x + 348)), some (.inl (nI (i + 5)))] [] h' k' n') : zwp E kL_law Q 188 453 [some (.inr (zEb E + 1)), some (.inr x), some (.inr (x + 348)), some (.inl (nI i))] [] h k n := by
  obtain ⟨F, s, L, hV⟩ := hV
  obtain ⟨nr, nk, n0, td, hW, hI⟩ := IV_WR hV
  have hC := hV.1
  have hM := hV.2.2.1
  have hxk := hC.1.1.1
  simp (disch := omega) only [↓wL_law_453, ↓wL_law_454, ↓wL_law_455, ↓wL_law_456, ↓wL_law_457, ↓wL_law_458, ↓wL_law_459, ↓wL_law_460, ↓wL_law_461, ↓wL_law_462, ↓wL_law_463, ↓wL_law_464, ↓wL_law_465, ↓wL_law_466, ↓wL_law_467, ↓wL_law_468, ↓wL_law_469, ↓wL_law_470, ↓wL_law_471, ↓wL_law_472, ↓wL_law_473, ↓wL_law_474, ↓wL_law_477, ↓wL_law_478, ↓wL_law_479, ↓wL_law_480, ↓wL_law_481, ↓wL_law_482, ↓wL_law_483, ↓wL_law_484, ↓wL_law_485, ↓wL_law_486, ↓wL_law_487, ↓wL_law_488, ↓wL_law_489, ↓wL_law_490, ↓wL_law_491, ↓wL_law_492, ↓wL_law_493, ↓wL_law_494, ↓wL_law_495, ↓wL_law_496, ↓wL_law_497, ↓wL_law_498, ↓wL_law_501, ↓wL_law_504, ↓wL_law_505, ↓wL_law_1135, ↓wL_law_1138, zQi_def, zQa_def, zQv_def, nI00, nI10, nI11, nI01, true_or, or_true, false_or, or_false, eq_self, true_implies, false_implies, not_true_eq_false, not_false_eq_true, zc9, zc1, zc2, zc3, zc1000, nI_m9, nI_add, pk_mul, ix_nI, vpT, zk_zpi, zn_zpi, zr_zpi, zk_zpa, zn_zpa, zr_zpa, zsz_zpi, zsz_zpa, zi_zpa, zpi_pa, zpa_zpa, true_and, and_true, and_self]
  exact ⟨hxk, pb_bring hC hW (law_A hV (fun h1 Qr hm hq => p_bring hm hM hI hq) (fun h' hi => hK h' _ _ (by omega) (by omega) hi))⟩
set_option maxRecDepth 100000 in
theorem br_8 {E : zE} {Q : Option zV → zH → Prop} {x i k n : Nat} {h : zH} (h5 : i + 5 ≤ zEL E) (hL : zEL E ≤ 2560) (hV : IV h x) (hk : k + 41 ≤ 600000) (hn : n + 473 ≤ 7302250) (hK : ∀ h' k' n', k' ≤ k + 41 → n' ≤ n + 473 → IV h' x → zJ E mL_law Q 18 [some (.inr (zEb E + 1)), some (.inr x), some (.inr (x + 348)), some (.inl (nI (i + 5)))] [] h' k' n') : zwp E kL_law Q 188 506 [some (.inr (zEb E + 1)), some (.inr x), some (.inr (x + 348)), some (.inl (nI i))] [] h k n := by
  obtain ⟨F, s, L, hV⟩ := hV
  obtain ⟨nr, nk, n0, td, hW, hI⟩ := IV_WR hV
  have hC := hV.1
  have hM := hV.2.2.1
  have hxk := hC.1.1.1
  simp (disch := omega) only [↓wL_law_506, ↓wL_law_507, ↓wL_law_508, ↓wL_law_509, ↓wL_law_510, ↓wL_law_511, ↓wL_law_512, ↓wL_law_515, ↓wL_law_516, ↓wL_law_517, ↓wL_law_518, ↓wL_law_519, ↓wL_law_520, ↓wL_law_521, ↓wL_law_524, ↓wL_law_527, ↓wL_law_528, ↓wL_law_1135, ↓wL_law_1138, zQi_def, zQa_def, zQv_def, nI00, nI10, nI11, nI01, true_or, or_true, false_or, or_false, eq_self, true_implies, false_implies, not_true_eq_false, not_false_eq_true, zc9, zc1, zc2, zc3, zc1000, nI_m9, nI_add, pk_mul, ix_nI, vpT, zk_zpi, zn_zpi, zr_zpi, zk_zpa, zn_zpa, zr_zpa, zsz_zpi, zsz_zpa, zi_zpa, zpi_pa, zpa_zpa, true_and, and_true, and_self]
  exact ⟨hxk, pb_cancel hC hW (law_A hV (fun h1 Qr hm hq => p_cancel hm hM hI hq) (fun h' hi => hK h' _ _ (by omega) (by omega) hi))⟩
set_option maxRecDepth 100000 in
theorem br_9 {E : zE} {Q : Option zV → zH → Prop} {x i k n : Nat} {h : zH} (h5 : i + 5 ≤ zEL E) (hL : zEL E ≤ 2560) (hV : IV h x) (hk : k + 41 ≤ 600000) (hn : n + 473 ≤ 7302250) (hK : ∀ h' k' n', k' ≤ k + 41 → n' ≤ n + 473 → IV h' x → zJ E mL_law Q 18 [some (.inr (zEb E + 1)), some (.inr x), some (.inr (x + 348)), some (.inl (nI (i + 5)))] [] h' k' n') : zwp E kL_law Q 188 529 [some (.inr (zEb E + 1)), some (.inr x), some (.inr (x + 348)), some (.inl (nI i))] [] h k n := by
  obtain ⟨F, s, L, hV⟩ := hV
  obtain ⟨nr, nk, n0, td, hW, hI⟩ := IV_WR hV
  have hC := hV.1
  have hM := hV.2.2.1
  have hxk := hC.1.1.1
  simp (disch := omega) only [↓wL_law_529, ↓wL_law_530, ↓wL_law_531, ↓wL_law_532, ↓wL_law_533, ↓wL_law_534, ↓wL_law_535, ↓wL_law_536, ↓wL_law_537, ↓wL_law_538, ↓wL_law_539, ↓wL_law_540, ↓wL_law_543, ↓wL_law_544, ↓wL_law_545, ↓wL_law_546, ↓wL_law_547, ↓wL_law_548, ↓wL_law_549, ↓wL_law_550, ↓wL_law_551, ↓wL_law_552, ↓wL_law_553, ↓wL_law_554, ↓wL_law_557, ↓wL_law_560, ↓wL_law_561, ↓wL_law_1135, ↓wL_law_1138, zQi_def, zQa_def, zQv_def, nI00, nI10, nI11, nI01, true_or, or_true, false_or, or_false, eq_self, true_implies, false_implies, not_true_eq_false, not_false_eq_true, zc9, zc1, zc2, zc3, zc1000, nI_m9, nI_add, pk_mul, ix_nI, vpT, zk_zpi, zn_zpi, zr_zpi, zk_zpa, zn_zpa, zr_zpa, zsz_zpi, zsz_zpa, zi_zpa, zpi_pa, zpa_zpa, true_and, and_true, and_self]
  exact ⟨hxk, pb_exchange hC hW (law_A hV (fun h1 Qr hm hq => p_exchange hm hM hI hq) (fun h' hi => hK h' _ _ (by omega) (by omega) hi))⟩
set_option maxRecDepth 100000 in
theorem br_10 {E : zE} {Q : Option zV → zH → Prop} {x i k n : Nat} {h : zH} (h5 : i + 5 ≤ zEL E) (hL : zEL E ≤ 2560) (hV : IV h x) (hk : k + 41 ≤ 600000) (hn : n + 473 ≤ 7302250) (hK : ∀ h' k' n', k' ≤ k + 41 → n' ≤ n + 473 → IV h' x → zJ E mL_law Q 18 [some (.inr (zEb E + 1)), some (.inr x), some (.inr (x + 348)), some (.inl (nI (i + 5)))] [] h' k' n') : zwp E kL_law Q 188 562 [some (.inr (zEb E + 1)), some (.inr x), some (.inr (x + 348)), some (.inl (nI i))] [] h k n := by
  obtain ⟨F, s, L, hV⟩ := hV
  obtain ⟨nr, nk, n0, td, hW, hI⟩ := IV_WR hV
  have hC := hV.1
  have hM := hV.2.2.1
  have hxk := hC.1.1.1
  simp (disch := omega) only [↓wL_law_562, ↓wL_law_563, ↓wL_law_564, ↓wL_law_565, ↓wL_law_566, ↓wL_law_567, ↓wL_law_568, ↓wL_law_571, ↓wL_law_572, ↓wL_law_573, ↓wL_law_574, ↓wL_law_575, ↓wL_law_576, ↓wL_law_577, ↓wL_law_580, ↓wL_law_583, ↓wL_law_584, ↓wL_law_1135, ↓wL_law_1138, zQi_def, zQa_def, zQv_def, nI00, nI10, nI11, nI01, true_or, or_true, false_or, or_false, eq_self, true_implies, false_implies, not_true_eq_false, not_false_eq_true, zc9, zc1, zc2, zc3, zc1000, nI_m9, nI_add, pk_mul, ix_nI, vpT, zk_zpi, zn_zpi, zr_zpi, zk_zpa, zn_zpa, zr_zpa, zsz_zpi, zsz_zpa, zi_zpa, zpi_pa, zpa_zpa, true_and, and_true, and_self]
  exact ⟨hxk, pb_pass hC hW (law_A hV (fun h1 Qr hm hq => p_pass hm hM hI hq) (fun h' hi => hK h' _ _ (by omega) (by omega) hi))⟩
set_option maxRecDepth 100000 in
theorem br_11 {E : zE} {Q : Option zV → zH → Prop} {x i k n : Nat} {h : zH} (h5 : i + 5 ≤ zEL E) (hL : zEL E ≤ 2560) (hV : IV h x) (hk : k + 41 ≤ 600000) (hn : n + 473 ≤ 7302250) (hK : ∀ h' k' n', k' ≤ k + 41 → n' ≤ n + 473 → IV h' x → zJ E mL_law Q 18 [some (.inr (zEb E + 1)), some (.inr x), some (.inr (x + 348)), some (.inl (nI (i + 5)))] [] h' k' n') : zwp E kL_law Q 188 585 [some (.inr (zEb E + 1)), some (.inr x), some (.inr (x + 348)), some (.inl (nI i))] [] h k n := by
  obtain ⟨F, s, L, hV⟩ := hV
  obtain ⟨nr, nk, n0, td, hW, hI⟩ := IV_WR hV
  have hC := hV.1
  have hM := hV.2.2.1
  have hxk := hC.1.1.1
  simp (disch := omega) only [↓wL_law_585, ↓wL_law_586, ↓wL_law_587, ↓wL_law_588, ↓wL_law_589, ↓wL_law_590, ↓wL_law_591, ↓wL_law_594, ↓wL_law_595, ↓wL_law_596, ↓wL_law_597, ↓wL_law_598, ↓wL_law_599, ↓wL_law_600, ↓wL_law_603, ↓wL_law_606, ↓wL_law_607, ↓wL_law_1135, ↓wL_law_1138, zQi_def, zQa_def, zQv_def, nI00, nI10, nI11, nI01, true_or, or_true, false_or, or_false, eq_self, true_implies, false_implies, not_true_eq_false, not_false_eq_true, zc9, zc1, zc2, zc3, zc1000, nI_m9, nI_add, pk_mul, ix_nI, vpT, zk_zpi, zn_zpi, zr_zpi, zk_zpa, zn_zpa, zr_zpa, zsz_zpi, zsz_zpa, zi_zpa, zpi_pa, zpa_zpa, true_and, and_true, and_self]
  exact ⟨hxk, ⟨by omega, by omega⟩, pb_take hC hW (law_A hV (fun h1 Qr hm hq => p_take hm hM hI hq) (fun h' hi => hK h' _ _ (by omega) (by omega) hi))⟩
set_option maxRecDepth 100000 in
theorem br_12 {E : zE} {Q : Option zV → zH → Prop} {x i k n : Nat} {h : zH} (h5 : i + 5 ≤ zEL E) (hL : zEL E ≤ 2560) (hV : IV h x) (hk : k + 41 ≤ 600000) (hn : n + 473 ≤ 7302250) (hK : ∀ h' k' n', k' ≤ k + 41 → n' ≤ n + 473 → IV h' x → zJ E mL_law Q 18 [some (.inr (zEb E + 1)), some (.inr x), some (.inr (x + 348)), some (.inl (nI (i + 5)))] [] h' k' n') : zwp E kL_law Q 188 608 [some (.inr (zEb E + 1)), some (.inr x), some (.inr (x + 348)), some (.inl (nI i))] [] h k n := by
  obtain ⟨F, s, L, hV⟩ := hV
  obtain ⟨nr, nk, n0, td, hW, hI⟩ := IV_WR hV
  have hC := hV.1
  have hM := hV.2.2.1
  have hxk := hC.1.1.1
  simp (disch := omega) only [↓wL_law_608, ↓wL_law_609, ↓wL_law_610, ↓wL_law_611, ↓wL_law_612, ↓wL_law_613, ↓wL_law_614, ↓wL_law_617, ↓wL_law_618, ↓wL_law_619, ↓wL_law_620, ↓wL_law_621, ↓wL_law_622, ↓wL_law_623, ↓wL_law_626, ↓wL_law_629, ↓wL_law_630, ↓wL_law_1135, ↓wL_law_1138, zQi_def, zQa_def, zQv_def, nI00, nI10, nI11, nI01, true_or, or_true, false_or, or_false, eq_self, true_implies, false_implies, not_true_eq_false, not_false_eq_true, zc9, zc1, zc2, zc3, zc1000, nI_m9, nI_add, pk_mul, ix_nI, vpT, zk_zpi, zn_zpi, zr_zpi, zk_zpa, zn_zpa, zr_zpa, zsz_zpi, zsz_zpa, zi_zpa, zpi_pa, zpa_zpa, true_and, and_true, and_self]
  exact ⟨hxk, pb_restore hC hW (law_A hV (fun h1 Qr hm hq => p_restore hm hM hI hq) (fun h' hi => hK h' _ _ (by omega) (by omega) hi))⟩
set_option maxRecDepth 100000 in
theorem br_13 {E : zE} {Q : Option zV → zH → Prop} {x i k n : Nat} {h : zH} (h5 : i + 5 ≤ zEL E) (hL : zEL E ≤ 2560) (hV : IV h x) (hk : k + 41 ≤ 600000) (hn : n + 473 ≤ 7302250) (hK : ∀ h' k' n', k' ≤ k + 41 → n' ≤ n + 473 → IV h' x → zJ E mL_law Q 18 [some (.inr (zEb E + 1)), some (.inr x), some (.inr (x + 348)), some (.inl (nI (i + 5)))] [] h' k' n') : zwp E kL_law Q 188 631 [some (.inr (zEb E + 1)), some (.inr x), some (.inr (x + 348)), some (.inl (nI i))] [] h k n := by
  obtain ⟨F, s, L, hV⟩ := hV
  obtain ⟨nr, nk, n0, td, hW, hI⟩ := IV_WR hV
  have hC := hV.1
  have hM := hV.2.2.1
  have hxk := hC.1.1.1
  simp (disch := omega) only [↓wL_law_631, ↓wL_law_632, ↓wL_law_635, ↓wL_law_636, ↓wL_law_639, ↓wL_law_642, ↓wL_law_643, ↓wL_law_1135, ↓wL_law_1138, zQi_def, zQa_def, zQv_def, nI00, nI10, nI11, nI01, true_or, or_true, false_or, or_false, eq_self, true_implies, false_implies, not_true_eq_false, not_false_eq_true, zc9, zc1, zc2, zc3, zc1000, nI_m9, nI_add, pk_mul, ix_nI, vpT, zk_zpi, zn_zpi, zr_zpi, zk_zpa, zn_zpa, zr_zpa, zsz_zpi, zsz_zpa, zi_zpa, zpi_pa, zpa_zpa, true_and, and_true, and_self]
  exact ⟨hxk, law_und hV (fun h' hi => hK h' _ _ (by omega) (by omega) hi)⟩
set_option maxRecDepth 100000 in
theorem br_14 {E : zE} {Q : Option zV → zH → Prop} {x i k n : Nat} {h : zH} (h5 : i + 5 ≤ zEL E) (hL : zEL E ≤ 2560) (hV : IV h x) (hk : k + 41 ≤ 600000) (hn : n + 473 ≤ 7302250) (hK : ∀ h' k' n', k' ≤ k + 41 → n' ≤ n + 473 → IV h' x → zJ E mL_law Q 18 [some (.inr (zEb E + 1)), some (.inr x), some (.inr (x + 348)), some (.inl (nI (i + 5)))] [] h' k' n') : zwp E kL_law Q 188 644 [some (.inr (zEb E + 1)), some (.inr x), some (.inr (x + 348)), some (.inl (nI i))] [] h k n := by
  obtain ⟨F, s, L, hV⟩ := hV
  obtain ⟨nr, nk, n0, td, hW, hI⟩ := IV_WR hV
  have hC := hV.1
  have hM := hV.2.2.1
  have hxk := hC.1.1.1
  simp (disch := omega) only [↓wL_law_644, ↓wL_law_645, ↓wL_law_646, ↓wL_law_647, ↓wL_law_648, ↓wL_law_649, ↓wL_law_650, ↓wL_law_653, ↓wL_law_654, ↓wL_law_655, ↓wL_law_656, ↓wL_law_657, ↓wL_law_658, ↓wL_law_659, ↓wL_law_662, ↓wL_law_665, ↓wL_law_666, ↓wL_law_1135, ↓wL_law_1138, zQi_def, zQa_def, zQv_def, nI00, nI10, nI11, nI01, true_or, or_true, false_or, or_false, eq_self, true_implies, false_implies, not_true_eq_false, not_false_eq_true, zc9, zc1, zc2, zc3, zc1000, nI_m9, nI_add, pk_mul, ix_nI, vpT, zk_zpi, zn_zpi, zr_zpi, zk_zpa, zn_zpa, zr_zpa, zsz_zpi, zsz_zpa, zi_zpa, zpi_pa, zpa_zpa, true_and, and_true, and_self]
  exact ⟨hxk, law_app hV (fun h' hi => hK h' _ _ (by omega) (by omega) hi)⟩
set_option maxRecDepth 100000 in
theorem br_15 {E : zE} {Q : Option zV → zH → Prop} {x i k n : Nat} {h : zH} (h5 : i + 5 ≤ zEL E) (hL : zEL E ≤ 2560) (hV : IV h x) (hk : k + 41 ≤ 600000) (hn : n + 473 ≤ 7302250) (hK : ∀ h' k' n', k' ≤ k + 41 → n' ≤ n + 473 → IV h' x → zJ E mL_law Q 18 [some (.inr (zEb E + 1)), some (.inr x), some (.inr (x + 348)), some (.inl (nI (i + 5)))] [] h' k' n') : zwp E kL_law Q 188 667 [some (.inr (zEb E + 1)), some (.inr x), some (.inr (x + 348)), some (.inl (nI i))] [] h k n := by
  obtain ⟨F, s, L, hV⟩ := hV
  obtain ⟨nr, nk, n0, td, hW, hI⟩ := IV_WR hV
  have hC := hV.1
  have hM := hV.2.2.1
  have hxk := hC.1.1.1
  simp (disch := omega) only [↓wL_law_667, ↓wL_law_668, ↓wL_law_671, ↓wL_law_672, ↓wL_law_675, ↓wL_law_678, ↓wL_law_679, ↓wL_law_1135, ↓wL_law_1138, zQi_def, zQa_def, zQv_def, nI00, nI10, nI11, nI01, true_or, or_true, false_or, or_false, eq_self, true_implies, false_implies, not_true_eq_false, not_false_eq_true, zc9, zc1, zc2, zc3, zc1000, nI_m9, nI_add, pk_mul, ix_nI, vpT, zk_zpi, zn_zpi, zr_zpi, zk_zpa, zn_zpa, zr_zpa, zsz_zpi, zsz_zpa, zi_zpa, zpi_pa, zpa_zpa, true_and, and_true, and_self]
  exact ⟨hxk, law_clr hV (fun h' hi => hK h' _ _ (by omega) (by omega) hi)⟩
set_option maxRecDepth 100000 in
theorem br_16 {E : zE} {Q : Option zV → zH → Prop} {x i k n : Nat} {h : zH} (h5 : i + 5 ≤ zEL E) (hL : zEL E ≤ 2560) (hV : IV h x) (hk : k + 41 ≤ 600000) (hn : n + 473 ≤ 7302250) (hK : ∀ h' k' n', k' ≤ k + 41 → n' ≤ n + 473 → IV h' x → zJ E mL_law Q 18 [some (.inr (zEb E + 1)), some (.inr x), some (.inr (x + 348)), some (.inl (nI (i + 5)))] [] h' k' n') : zwp E kL_law Q 188 680 [some (.inr (zEb E + 1)), some (.inr x), some (.inr (x + 348)), some (.inl (nI i))] [] h k n := by
  obtain ⟨F, s, L, hV⟩ := hV
  obtain ⟨nr, nk, n0, td, hW, hI⟩ := IV_WR hV
  have hC := hV.1
  have hM := hV.2.2.1
  have hxk := hC.1.1.1
  simp (disch := omega) only [↓wL_law_680, ↓wL_law_681, ↓wL_law_684, ↓wL_law_685, ↓wL_law_688, ↓wL_law_691, ↓wL_law_692, ↓wL_law_1135, ↓wL_law_1138, zQi_def, zQa_def, zQv_def, nI00, nI10, nI11, nI01, true_or, or_true, false_or, or_false, eq_self, true_implies, false_implies, not_true_eq_false, not_false_eq_true, zc9, zc1, zc2, zc3, zc1000, nI_m9, nI_add, pk_mul, ix_nI, vpT, zk_zpi, zn_zpi, zr_zpi, zk_zpa, zn_zpa, zr_zpa, zsz_zpi, zsz_zpa, zi_zpa, zpi_pa, zpa_zpa, true_and, and_true, and_self]
  exact ⟨hxk, pb_run hC (fun hP => law_U hV hP rfl rfl (fun h' hi => hK h' _ _ (by omega) (by omega) hi))⟩
set_option maxRecDepth 100000 in
theorem br_17 {E : zE} {Q : Option zV → zH → Prop} {x i k n : Nat} {h : zH} (h5 : i + 5 ≤ zEL E) (hL : zEL E ≤ 2560) (hV : IV h x) (hk : k + 41 ≤ 600000) (hn : n + 473 ≤ 7302250) (hK : ∀ h' k' n', k' ≤ k + 41 → n' ≤ n + 473 → IV h' x → zJ E mL_law Q 18 [some (.inr (zEb E + 1)), some (.inr x), some (.inr (x + 348)), some (.inl (nI (i + 5)))] [] h' k' n') : zwp E kL_law Q 188 693 [some (.inr (zEb E + 1)), some (.inr x), some (.inr (x + 348)), some (.inl (nI i))] [] h k n := by
  obtain ⟨F, s, L, hV⟩ := hV
  obtain ⟨nr, nk, n0, td, hW, hI⟩ := IV_WR hV
  have hC := hV.1
  have hM := hV.2.2.1
  have hxk := hC.1.1.1
  simp (disch := omega) only [↓wL_law_693, ↓wL_law_694, ↓wL_law_695, ↓wL_law_696, ↓wL_law_697, ↓wL_law_698, ↓wL_law_699, ↓wL_law_702, ↓wL_law_703, ↓wL_law_704, ↓wL_law_705, ↓wL_law_706, ↓wL_law_707, ↓wL_law_708, ↓wL_law_711, ↓wL_law_714, ↓wL_law_715, ↓wL_law_1135, ↓wL_law_1138, zQi_def, zQa_def, zQv_def, nI00, nI10, nI11, nI01, true_or, or_true, false_or, or_false, eq_self, true_implies, false_implies, not_true_eq_false, not_false_eq_true, zc9, zc1, zc2, zc3, zc1000, nI_m9, nI_add, pk_mul, ix_nI, vpT, zk_zpi, zn_zpi, zr_zpi, zk_zpa, zn_zpa, zr_zpa, zsz_zpi, zsz_zpa, zi_zpa, zpi_pa, zpa_zpa, true_and, and_true, and_self]
  exact ⟨hxk, pb_count hC hW (law_Q hV (fun Qr hq => p_count hV.2.1 hM hI hq) (fun h' hi => hK h' _ _ (by omega) (by omega) hi))⟩
set_option maxRecDepth 100000 in
theorem br_18 {E : zE} {Q : Option zV → zH → Prop} {x i k n : Nat} {h : zH} (h5 : i + 5 ≤ zEL E) (hL : zEL E ≤ 2560) (hV : IV h x) (hk : k + 41 ≤ 600000) (hn : n + 473 ≤ 7302250) (hK : ∀ h' k' n', k' ≤ k + 41 → n' ≤ n + 473 → IV h' x → zJ E mL_law Q 18 [some (.inr (zEb E + 1)), some (.inr x), some (.inr (x + 348)), some (.inl (nI (i + 5)))] [] h' k' n') : zwp E kL_law Q 188 716 [some (.inr (zEb E + 1)), some (.inr x), some (.inr (x + 348)), some (.inl (nI i))] [] h k n := by
  obtain ⟨F, s, L, hV⟩ := hV
  obtain ⟨nr, nk, n0, td, hW, hI⟩ := IV_WR hV
  have hC := hV.1
  have hM := hV.2.2.1
  have hxk := hC.1.1.1
  simp (disch := omega) only [↓wL_law_716, ↓wL_law_717, ↓wL_law_718, ↓wL_law_719, ↓wL_law_720, ↓wL_law_721, ↓wL_law_722, ↓wL_law_723, ↓wL_law_724, ↓wL_law_725, ↓wL_law_726, ↓wL_law_727, ↓wL_law_730, ↓wL_law_731, ↓wL_law_732, ↓wL_law_733, ↓wL_law_734, ↓wL_law_735, ↓wL_law_736, ↓wL_law_737, ↓wL_law_738, ↓wL_law_739, ↓wL_law_740, ↓wL_law_741, ↓wL_law_744, ↓wL_law_747, ↓wL_law_748, ↓wL_law_1135, ↓wL_law_1138, zQi_def, zQa_def, zQv_def, nI00, nI10, nI11, nI01, true_or, or_true, false_or, or_false, eq_self, true_implies, false_implies, not_true_eq_false, not_false_eq_true, zc9, zc1, zc2, zc3, zc1000, nI_m9, nI_add, pk_mul, ix_nI, vpT, zk_zpi, zn_zpi, zr_zpi, zk_zpa, zn_zpa, zr_zpa, zsz_zpi, zsz_zpa, zi_zpa, zpi_pa, zpa_zpa, true_and, and_true, and_self]
  exact ⟨hxk, pb_rock hC hW (law_Q hV (fun Qr hq => p_rock hV.2.1 hM hI hq) (fun h' hi => hK h' _ _ (by omega) (by omega) hi))⟩
set_option maxRecDepth 100000 in
theorem br_19 {E : zE} {Q : Option zV → zH → Prop} {x i k n : Nat} {h : zH} (h5 : i + 5 ≤ zEL E) (hL : zEL E ≤ 2560) (hV : IV h x) (hk : k + 41 ≤ 600000) (hn : n + 473 ≤ 7302250) (hK : ∀ h' k' n', k' ≤ k + 41 → n' ≤ n + 473 → IV h' x → zJ E mL_law Q 18 [some (.inr (zEb E + 1)), some (.inr x), some (.inr (x + 348)), some (.inl (nI (i + 5)))] [] h' k' n') : zwp E kL_law Q 188 749 [some (.inr (zEb E + 1)), some (.inr x), some (.inr (x + 348)), some (.inl (nI i))] [] h k n := by
  obtain ⟨F, s, L, hV⟩ := hV
  obtain ⟨nr, nk, n0, td, hW, hI⟩ := IV_WR hV
  have hC := hV.1
  have hM := hV.2.2.1
  have hxk := hC.1.1.1
  simp (disch := omega) only [↓wL_law_749, ↓wL_law_750, ↓wL_law_751, ↓wL_law_752, ↓wL_law_753, ↓wL_law_754, ↓wL_law_755, ↓wL_law_756, ↓wL_law_757, ↓wL_law_758, ↓wL_law_759, ↓wL_law_760, ↓wL_law_761, ↓wL_law_762, ↓wL_law_763, ↓wL_law_764, ↓wL_law_765, ↓wL_law_768, ↓wL_law_769, ↓wL_law_770, ↓wL_law_771, ↓wL_law_772, ↓wL_law_773, ↓wL_law_774, ↓wL_law_775, ↓wL_law_776, ↓wL_law_777, ↓wL_law_778, ↓wL_law_779, ↓wL_law_780, ↓wL_law_781, ↓wL_law_782, ↓wL_law_783, ↓wL_law_784, ↓wL_law_787, ↓wL_law_790, ↓wL_law_791, ↓wL_law_1135, ↓wL_law_1138, zQi_def, zQa_def, zQv_def, nI00, nI10, nI11, nI01, true_or, or_true, false_or, or_false, eq_self, true_implies, false_implies, not_true_eq_false, not_false_eq_true, zc9, zc1, zc2, zc3, zc1000, nI_m9, nI_add, pk_mul, ix_nI, vpT, zk_zpi, zn_zpi, zr_zpi, zk_zpa, zn_zpa, zr_zpa, zsz_zpi, zsz_zpa, zi_zpa, zpi_pa, zpa_zpa, true_and, and_true, and_self]
  exact ⟨hxk, pb_store hC hW (law_Q hV (fun Qr hq => p_store hV.2.1 hM hI hq) (fun h' hi => hK h' _ _ (by omega) (by omega) hi))⟩
set_option maxRecDepth 100000 in
theorem br_20 {E : zE} {Q : Option zV → zH → Prop} {x i k n : Nat} {h : zH} (h5 : i + 5 ≤ zEL E) (hL : zEL E ≤ 2560) (hV : IV h x) (hk : k + 41 ≤ 600000) (hn : n + 473 ≤ 7302250) (hK : ∀ h' k' n', k' ≤ k + 41 → n' ≤ n + 473 → IV h' x → zJ E mL_law Q 18 [some (.inr (zEb E + 1)), some (.inr x), some (.inr (x + 348)), some (.inl (nI (i + 5)))] [] h' k' n') : zwp E kL_law Q 188 792 [some (.inr (zEb E + 1)), some (.inr x), some (.inr (x + 348)), some (.inl (nI i))] [] h k n := by
  obtain ⟨F, s, L, hV⟩ := hV
  obtain ⟨nr, nk, n0, td, hW, hI⟩ := IV_WR hV
  have hC := hV.1
  have hM := hV.2.2.1
  have hxk := hC.1.1.1
  simp (disch := omega) only [↓wL_law_792, ↓wL_law_793, ↓wL_law_794, ↓wL_law_795, ↓wL_law_796, ↓wL_law_797, ↓wL_law_798, ↓wL_law_799, ↓wL_law_800, ↓wL_law_801, ↓wL_law_802, ↓wL_law_803, ↓wL_law_806, ↓wL_law_807, ↓wL_law_808, ↓wL_law_809, ↓wL_law_810, ↓wL_law_811, ↓wL_law_812, ↓wL_law_813, ↓wL_law_814, ↓wL_law_815, ↓wL_law_816, ↓wL_law_817, ↓wL_law_820, ↓wL_law_823, ↓wL_law_824, ↓wL_law_1135, ↓wL_law_1138, zQi_def, zQa_def, zQv_def, nI00, nI10, nI11, nI01, true_or, or_true, false_or, or_false, eq_self, true_implies, false_implies, not_true_eq_false, not_false_eq_true, zc9, zc1, zc2, zc3, zc1000, nI_m9, nI_add, pk_mul, ix_nI, vpT, zk_zpi, zn_zpi, zr_zpi, zk_zpa, zn_zpa, zr_zpa, zsz_zpi, zsz_zpa, zi_zpa, zpi_pa, zpa_zpa, true_and, and_true, and_self]
  exact ⟨hxk, pb_keeper hC hW (law_Q hV (fun Qr hq => p_keeper hV.2.1 hM hI hq) (fun h' hi => hK h' _ _ (by omega) (by omega) hi))⟩
set_option maxRecDepth 100000 in
theorem br_21 {E : zE} {Q : Option zV → zH → Prop} {x i k n : Nat} {h : zH} (h5 : i + 5 ≤ zEL E) (hL : zEL E ≤ 2560) (hV : IV h x) (hk : k + 41 ≤ 600000) (hn : n + 473 ≤ 7302250) (hK : ∀ h' k' n', k' ≤ k + 41 → n' ≤ n + 473 → IV h' x → zJ E mL_law Q 18 [some (.inr (zEb E + 1)), some (.inr x), some (.inr (x + 348)), some (.inl (nI (i + 5)))] [] h' k' n') : zwp E kL_law Q 188 825 [some (.inr (zEb E + 1)), some (.inr x), some (.inr (x + 348)), some (.inl (nI i))] [] h k n := by
  obtain ⟨F, s, L, hV⟩ := hV
  obtain ⟨nr, nk, n0, td, hW, hI⟩ := IV_WR hV
  have hC := hV.1
  have hM := hV.2.2.1
  have hxk := hC.1.1.1
  simp (disch := omega) only [↓wL_law_825, ↓wL_law_826, ↓wL_law_827, ↓wL_law_828, ↓wL_law_829, ↓wL_law_830, ↓wL_law_831, ↓wL_law_832, ↓wL_law_833, ↓wL_law_834, ↓wL_law_835, ↓wL_law_836, ↓wL_law_839, ↓wL_law_840, ↓wL_law_841, ↓wL_law_842, ↓wL_law_843, ↓wL_law_844, ↓wL_law_845, ↓wL_law_846, ↓wL_law_847, ↓wL_law_848, ↓wL_law_849, ↓wL_law_850, ↓wL_law_853, ↓wL_law_856, ↓wL_law_857, ↓wL_law_1135, ↓wL_law_1138, zQi_def, zQa_def, zQv_def, nI00, nI10, nI11, nI01, true_or, or_true, false_or, or_false, eq_self, true_implies, false_implies, not_true_eq_false, not_false_eq_true, zc9, zc1, zc2, zc3, zc1000, nI_m9, nI_add, pk_mul, ix_nI, vpT, zk_zpi, zn_zpi, zr_zpi, zk_zpa, zn_zpa, zr_zpa, zsz_zpi, zsz_zpa, zi_zpa, zpi_pa, zpa_zpa, true_and, and_true, and_self]
  exact ⟨hxk, pb_turn hC hW (law_Q hV (fun Qr hq => p_turn hV.2.1 hM hI hq) (fun h' hi => hK h' _ _ (by omega) (by omega) hi))⟩
set_option maxRecDepth 100000 in
theorem br_22 {E : zE} {Q : Option zV → zH → Prop} {x i k n : Nat} {h : zH} (h5 : i + 5 ≤ zEL E) (hL : zEL E ≤ 2560) (hV : IV h x) (hk : k + 41 ≤ 600000) (hn : n + 473 ≤ 7302250) (hK : ∀ h' k' n', k' ≤ k + 41 → n' ≤ n + 473 → IV h' x → zJ E mL_law Q 18 [some (.inr (zEb E + 1)), some (.inr x), some (.inr (x + 348)), some (.inl (nI (i + 5)))] [] h' k' n') : zwp E kL_law Q 188 858 [some (.inr (zEb E + 1)), some (.inr x), some (.inr (x + 348)), some (.inl (nI i))] [] h k n := by
  obtain ⟨F, s, L, hV⟩ := hV
  obtain ⟨nr, nk, n0, td, hW, hI⟩ := IV_WR hV
  have hC := hV.1
  have hM := hV.2.2.1
  have hxk := hC.1.1.1
  simp (disch := omega) only [↓wL_law_858, ↓wL_law_859, ↓wL_law_860, ↓wL_law_861, ↓wL_law_862, ↓wL_law_863, ↓wL_law_864, ↓wL_law_865, ↓wL_law_866, ↓wL_law_867, ↓wL_law_868, ↓wL_law_869, ↓wL_law_872, ↓wL_law_873, ↓wL_law_874, ↓wL_law_875, ↓wL_law_876, ↓wL_law_877, ↓wL_law_878, ↓wL_law_879, ↓wL_law_880, ↓wL_law_881, ↓wL_law_882, ↓wL_law_883, ↓wL_law_886, ↓wL_law_889, ↓wL_law_890, ↓wL_law_1135, ↓wL_law_1138, zQi_def, zQa_def, zQv_def, nI00, nI10, nI11, nI01, true_or, or_true, false_or, or_false, eq_self, true_implies, false_implies, not_true_eq_false, not_false_eq_true, zc9, zc1, zc2, zc3, zc1000, nI_m9, nI_add, pk_mul, ix_nI, vpT, zk_zpi, zn_zpi, zr_zpi, zk_zpa, zn_zpa, zr_zpa, zsz_zpi, zsz_zpa, zi_zpa, zpi_pa, zpa_zpa, true_and, and_true, and_self]
  exact ⟨hxk, pb_sea hC hW (law_Q hV (fun Qr hq => p_sea hV.2.1 hM hI hq) (fun h' hi => hK h' _ _ (by omega) (by omega) hi))⟩
set_option maxRecDepth 100000 in
theorem br_23 {E : zE} {Q : Option zV → zH → Prop} {x i k n : Nat} {h : zH} (h5 : i + 5 ≤ zEL E) (hL : zEL E ≤ 2560) (hV : IV h x) (hk : k + 41 ≤ 600000) (hn : n + 473 ≤ 7302250) (hK : ∀ h' k' n', k' ≤ k + 41 → n' ≤ n + 473 → IV h' x → zJ E mL_law Q 18 [some (.inr (zEb E + 1)), some (.inr x), some (.inr (x + 348)), some (.inl (nI (i + 5)))] [] h' k' n') : zwp E kL_law Q 188 891 [some (.inr (zEb E + 1)), some (.inr x), some (.inr (x + 348)), some (.inl (nI i))] [] h k n := by
  obtain ⟨F, s, L, hV⟩ := hV
  obtain ⟨nr, nk, n0, td, hW, hI⟩ := IV_WR hV
  have hC := hV.1
  have hM := hV.2.2.1
  have hxk := hC.1.1.1
  simp (disch := omega) only [↓wL_law_891, ↓wL_law_892, ↓wL_law_893, ↓wL_law_894, ↓wL_law_895, ↓wL_law_896, ↓wL_law_897, ↓wL_law_898, ↓wL_law_899, ↓wL_law_900, ↓wL_law_901, ↓wL_law_902, ↓wL_law_905, ↓wL_law_906, ↓wL_law_907, ↓wL_law_908, ↓wL_law_909, ↓wL_law_910, ↓wL_law_911, ↓wL_law_912, ↓wL_law_913, ↓wL_law_914, ↓wL_law_915, ↓wL_law_916, ↓wL_law_919, ↓wL_law_922, ↓wL_law_923, ↓wL_law_1135, ↓wL_law_1138, zQi_def, zQa_def, zQv_def, nI00, nI10, nI11, nI01, true_or, or_true, false_or, or_false, eq_self, true_implies, false_implies, not_true_eq_false, not_false_eq_true, zc9, zc1, zc2, zc3, zc1000, nI_m9, nI_add, pk_mul, ix_nI, vpT, zk_zpi, zn_zpi, zr_zpi, zk_zpa, zn_zpa, zr_zpa, zsz_zpi, zsz_zpa, zi_zpa, zpi_pa, zpa_zpa, true_and, and_true, and_self]
  exact ⟨hxk, pb_landing hC hW (law_Q hV (fun Qr hq => p_landing hV.2.1 hM hI hq) (fun h' hi => hK h' _ _ (by omega) (by omega) hi))⟩
set_option maxRecDepth 100000 in
theorem br_24 {E : zE} {Q : Option zV → zH → Prop} {x i k n : Nat} {h : zH} (h5 : i + 5 ≤ zEL E) (hL : zEL E ≤ 2560) (hV : IV h x) (hk : k + 41 ≤ 600000) (hn : n + 473 ≤ 7302250) (hK : ∀ h' k' n', k' ≤ k + 41 → n' ≤ n + 473 → IV h' x → zJ E mL_law Q 18 [some (.inr (zEb E + 1)), some (.inr x), some (.inr (x + 348)), some (.inl (nI (i + 5)))] [] h' k' n') : zwp E kL_law Q 188 924 [some (.inr (zEb E + 1)), some (.inr x), some (.inr (x + 348)), some (.inl (nI i))] [] h k n := by
  obtain ⟨F, s, L, hV⟩ := hV
  obtain ⟨nr, nk, n0, td, hW, hI⟩ := IV_WR hV
  have hC := hV.1
  have hM := hV.2.2.1
  have hxk := hC.1.1.1
  simp (disch := omega) only [↓wL_law_924, ↓wL_law_925, ↓wL_law_926, ↓wL_law_927, ↓wL_law_928, ↓wL_law_929, ↓wL_law_930, ↓wL_law_931, ↓wL_law_932, ↓wL_law_933, ↓wL_law_934, ↓wL_law_935, ↓wL_law_936, ↓wL_law_937, ↓wL_law_938, ↓wL_law_939, ↓wL_law_940, ↓wL_law_943, ↓wL_law_944, ↓wL_law_945, ↓wL_law_946, ↓wL_law_947, ↓wL_law_948, ↓wL_law_949, ↓wL_law_950, ↓wL_law_951, ↓wL_law_952, ↓wL_law_953, ↓wL_law_954, ↓wL_law_955, ↓wL_law_956, ↓wL_law_957, ↓wL_law_958, ↓wL_law_959, ↓wL_law_962, ↓wL_law_965, ↓wL_law_966, ↓wL_law_1135, ↓wL_law_1138, zQi_def, zQa_def, zQv_def, nI00, nI10, nI11, nI01, true_or, or_true, false_or, or_false, eq_self, true_implies, false_implies, not_true_eq_false, not_false_eq_true, zc9, zc1, zc2, zc3, zc1000, nI_m9, nI_add, pk_mul, ix_nI, vpT, zk_zpi, zn_zpi, zr_zpi, zk_zpa, zn_zpa, zr_zpa, zsz_zpi, zsz_zpa, zi_zpa, zpi_pa, zpa_zpa, true_and, and_true, and_self]
  exact ⟨hxk, pb_landings hC hW (law_Q hV (fun Qr hq => p_landings hV.2.1 hM hI hq) (fun h' hi => hK h' _ _ (by omega) (by omega) hi))⟩
set_option maxRecDepth 100000 in
theorem br_25 {E : zE} {Q : Option zV → zH → Prop} {x i k n : Nat} {h : zH} (h5 : i + 5 ≤ zEL E) (hL : zEL E ≤ 2560) (hV : IV h x) (hk : k + 41 ≤ 600000) (hn : n + 473 ≤ 7302250) (hK : ∀ h' k' n', k' ≤ k + 41 → n' ≤ n + 473 → IV h' x → zJ E mL_law Q 18 [some (.inr (zEb E + 1)), some (.inr x), some (.inr (x + 348)), some (.inl (nI (i + 5)))] [] h' k' n') : zwp E kL_law Q 188 967 [some (.inr (zEb E + 1)), some (.inr x), some (.inr (x + 348)), some (.inl (nI i))] [] h k n := by
  obtain ⟨F, s, L, hV⟩ := hV
  obtain ⟨nr, nk, n0, td, hW, hI⟩ := IV_WR hV
  have hC := hV.1
  have hM := hV.2.2.1
  have hxk := hC.1.1.1
  simp (disch := omega) only [↓wL_law_967, ↓wL_law_968, ↓wL_law_969, ↓wL_law_970, ↓wL_law_971, ↓wL_law_972, ↓wL_law_973, ↓wL_law_974, ↓wL_law_975, ↓wL_law_976, ↓wL_law_977, ↓wL_law_978, ↓wL_law_979, ↓wL_law_980, ↓wL_law_981, ↓wL_law_982, ↓wL_law_983, ↓wL_law_986, ↓wL_law_987, ↓wL_law_988, ↓wL_law_989, ↓wL_law_990, ↓wL_law_991, ↓wL_law_992, ↓wL_law_993, ↓wL_law_994, ↓wL_law_995, ↓wL_law_996, ↓wL_law_997, ↓wL_law_998, ↓wL_law_999, ↓wL_law_1000, ↓wL_law_1001, ↓wL_law_1002, ↓wL_law_1005, ↓wL_law_1008, ↓wL_law_1009, ↓wL_law_1135, ↓wL_law_1138, zQi_def, zQa_def, zQv_def, nI00, nI10, nI11, nI01, true_or, or_true, false_or, or_false, eq_self, true_implies, false_implies, not_true_eq_false, not_false_eq_true, zc9, zc1, zc2, zc3, zc1000, nI_m9, nI_add, pk_mul, ix_nI, vpT, zk_zpi, zn_zpi, zr_zpi, zk_zpa, zn_zpa, zr_zpa, zsz_zpi, zsz_zpa, zi_zpa, zpi_pa, zpa_zpa, true_and, and_true, and_self]
  exact ⟨hxk, pb_cutOff hC hW (law_Q hV (fun Qr hq => p_cutOff hV.2.1 hM hI hq) (fun h' hi => hK h' _ _ (by omega) (by omega) hi))⟩
set_option maxRecDepth 100000 in
theorem br_26 {E : zE} {Q : Option zV → zH → Prop} {x i k n : Nat} {h : zH} (h5 : i + 5 ≤ zEL E) (hL : zEL E ≤ 2560) (hV : IV h x) (hk : k + 41 ≤ 600000) (hn : n + 473 ≤ 7302250) (hK : ∀ h' k' n', k' ≤ k + 41 → n' ≤ n + 473 → IV h' x → zJ E mL_law Q 18 [some (.inr (zEb E + 1)), some (.inr x), some (.inr (x + 348)), some (.inl (nI (i + 5)))] [] h' k' n') : zwp E kL_law Q 188 1010 [some (.inr (zEb E + 1)), some (.inr x), some (.inr (x + 348)), some (.inl (nI i))] [] h k n := by
  obtain ⟨F, s, L, hV⟩ := hV
  obtain ⟨nr, nk, n0, td, hW, hI⟩ := IV_WR hV
  have hC := hV.1
  have hM := hV.2.2.1
  have hxk := hC.1.1.1
  simp (disch := omega) only [↓wL_law_1010, ↓wL_law_1011, ↓wL_law_1012, ↓wL_law_1013, ↓wL_law_1014, ↓wL_law_1015, ↓wL_law_1016, ↓wL_law_1017, ↓wL_law_1018, ↓wL_law_1019, ↓wL_law_1020, ↓wL_law_1021, ↓wL_law_1024, ↓wL_law_1025, ↓wL_law_1026, ↓wL_law_1027, ↓wL_law_1028, ↓wL_law_1029, ↓wL_law_1030, ↓wL_law_1031, ↓wL_law_1032, ↓wL_law_1033, ↓wL_law_1034, ↓wL_law_1035, ↓wL_law_1038, ↓wL_law_1041, ↓wL_law_1042, ↓wL_law_1135, ↓wL_law_1138, zQi_def, zQa_def, zQv_def, nI00, nI10, nI11, nI01, true_or, or_true, false_or, or_false, eq_self, true_implies, false_implies, not_true_eq_false, not_false_eq_true, zc9, zc1, zc2, zc3, zc1000, nI_m9, nI_add, pk_mul, ix_nI, vpT, zk_zpi, zn_zpi, zr_zpi, zk_zpa, zn_zpa, zr_zpa, zsz_zpi, zsz_zpa, zi_zpa, zpi_pa, zpa_zpa, true_and, and_true, and_self]
  exact ⟨hxk, pb_lasts hC hW (law_Q hV (fun Qr hq => p_lasts hV.2.1 hM hI hq) (fun h' hi => hK h' _ _ (by omega) (by omega) hi))⟩
set_option maxRecDepth 100000 in
theorem br_27 {E : zE} {Q : Option zV → zH → Prop} {x i k n : Nat} {h : zH} (h5 : i + 5 ≤ zEL E) (hL : zEL E ≤ 2560) (hV : IV h x) (hk : k + 41 ≤ 600000) (hn : n + 473 ≤ 7302250) (hK : ∀ h' k' n', k' ≤ k + 41 → n' ≤ n + 473 → IV h' x → zJ E mL_law Q 18 [some (.inr (zEb E + 1)), some (.inr x), some (.inr (x + 348)), some (.inl (nI (i + 5)))] [] h' k' n') : zwp E kL_law Q 188 1043 [some (.inr (zEb E + 1)), some (.inr x), some (.inr (x + 348)), some (.inl (nI i))] [] h k n := by
  obtain ⟨F, s, L, hV⟩ := hV
  obtain ⟨nr, nk, n0, td, hW, hI⟩ := IV_WR hV
  have hC := hV.1
  have hM := hV.2.2.1
  have hxk := hC.1.1.1
  simp (disch := omega) only [↓wL_law_1043, ↓wL_law_1044, ↓wL_law_1045, ↓wL_law_1046, ↓wL_law_1047, ↓wL_law_1048, ↓wL_law_1049, ↓wL_law_1052, ↓wL_law_1053, ↓wL_law_1054, ↓wL_law_1055, ↓wL_law_1056, ↓wL_law_1057, ↓wL_law_1058, ↓wL_law_1061, ↓wL_law_1064, ↓wL_law_1065, ↓wL_law_1135, ↓wL_law_1138, zQi_def, zQa_def, zQv_def, nI00, nI10, nI11, nI01, true_or, or_true, false_or, or_false, eq_self, true_implies, false_implies, not_true_eq_false, not_false_eq_true, zc9, zc1, zc2, zc3, zc1000, nI_m9, nI_add, pk_mul, ix_nI, vpT, zk_zpi, zn_zpi, zr_zpi, zk_zpa, zn_zpa, zr_zpa, zsz_zpi, zsz_zpa, zi_zpa, zpi_pa, zpa_zpa, true_and, and_true, and_self]
  exact ⟨hxk, pb_doneOn hC hW (law_D hV (fun h1 Qr hm hq => p_doneOn hm hM hI hq) (fun h' hi => hK h' _ _ (by omega) (by omega) hi))⟩
set_option maxRecDepth 100000 in
theorem br_28 {E : zE} {Q : Option zV → zH → Prop} {x i k n : Nat} {h : zH} (h5 : i + 5 ≤ zEL E) (hL : zEL E ≤ 2560) (hV : IV h x) (hk : k + 41 ≤ 600000) (hn : n + 473 ≤ 7302250) (hK : ∀ h' k' n', k' ≤ k + 41 → n' ≤ n + 473 → IV h' x → zJ E mL_law Q 18 [some (.inr (zEb E + 1)), some (.inr x), some (.inr (x + 348)), some (.inl (nI (i + 5)))] [] h' k' n') : zwp E kL_law Q 188 1066 [some (.inr (zEb E + 1)), some (.inr x), some (.inr (x + 348)), some (.inl (nI i))] [] h k n := by
  obtain ⟨F, s, L, hV⟩ := hV
  obtain ⟨nr, nk, n0, td, hW, hI⟩ := IV_WR hV
  have hC := hV.1
  have hM := hV.2.2.1
  have hxk := hC.1.1.1
  simp (disch := omega) only [↓wL_law_1066, ↓wL_law_1067, ↓wL_law_1068, ↓wL_law_1069, ↓wL_law_1070, ↓wL_law_1071, ↓wL_law_1072, ↓wL_law_1073, ↓wL_law_1074, ↓wL_law_1075, ↓wL_law_1076, ↓wL_law_1077, ↓wL_law_1078, ↓wL_law_1079, ↓wL_law_1080, ↓wL_law_1081, ↓wL_law_1082, ↓wL_law_1085, ↓wL_law_1086, ↓wL_law_1087, ↓wL_law_1088, ↓wL_law_1089, ↓wL_law_1090, ↓wL_law_1091, ↓wL_law_1092, ↓wL_law_1093, ↓wL_law_1094, ↓wL_law_1095, ↓wL_law_1096, ↓wL_law_1097, ↓wL_law_1098, ↓wL_law_1099, ↓wL_law_1100, ↓wL_law_1101, ↓wL_law_1104, ↓wL_law_1107, ↓wL_law_1108, ↓wL_law_1135, ↓wL_law_1138, zQi_def, zQa_def, zQv_def, nI00, nI10, nI11, nI01, true_or, or_true, false_or, or_false, eq_self, true_implies, false_implies, not_true_eq_false, not_false_eq_true, zc9, zc1, zc2, zc3, zc1000, nI_m9, nI_add, pk_mul, ix_nI, vpT, zk_zpi, zn_zpi, zr_zpi, zk_zpa, zn_zpa, zr_zpa, zsz_zpi, zsz_zpa, zi_zpa, zpi_pa, zpa_zpa, true_and, and_true, and_self]
  exact ⟨hxk, pb_later hC hW (law_D hV (fun h1 Qr hm hq => p_later hm hM hI hq) (fun h' hi => hK h' _ _ (by omega) (by omega) hi))⟩
set_option maxRecDepth 100000 in
theorem br_29 {E : zE} {Q : Option zV → zH → Prop} {x i k n : Nat} {h : zH} (h5 : i + 5 ≤ zEL E) (hL : zEL E ≤ 2560) (hV : IV h x) (hk : k + 41 ≤ 600000) (hn : n + 473 ≤ 7302250) (hK : ∀ h' k' n', k' ≤ k + 41 → n' ≤ n + 473 → IV h' x → zJ E mL_law Q 18 [some (.inr (zEb E + 1)), some (.inr x), some (.inr (x + 348)), some (.inl (nI (i + 5)))] [] h' k' n') : zwp E kL_law Q 188 1109 [some (.inr (zEb E + 1)), some (.inr x), some (.inr (x + 348)), some (.inl (nI i))] [] h k n := by
  obtain ⟨F, s, L, hV⟩ := hV
  obtain ⟨nr, nk, n0, td, hW, hI⟩ := IV_WR hV
  have hC := hV.1
  have hM := hV.2.2.1
  have hxk := hC.1.1.1
  simp (disch := omega) only [↓wL_law_1109, ↓wL_law_1110, ↓wL_law_1113, ↓wL_law_1114, ↓wL_law_1117, ↓wL_law_1120, ↓wL_law_1121, ↓wL_law_1135, ↓wL_law_1138, zQi_def, zQa_def, zQv_def, nI00, nI10, nI11, nI01, true_or, or_true, false_or, or_false, eq_self, true_implies, false_implies, not_true_eq_false, not_false_eq_true, zc9, zc1, zc2, zc3, zc1000, nI_m9, nI_add, pk_mul, ix_nI, vpT, zk_zpi, zn_zpi, zr_zpi, zk_zpa, zn_zpa, zr_zpa, zsz_zpi, zsz_zpa, zi_zpa, zpi_pa, zpa_zpa, true_and, and_true, and_self]
  exact ⟨hxk, pb_nextOut hC hW (law_Q hV (fun Qr hq => p_nextOut hV.2.1 hM hI hq) (fun h' hi => hK h' _ _ (by omega) (by omega) hi))⟩
set_option maxRecDepth 100000 in
theorem br_30 {E : zE} {Q : Option zV → zH → Prop} {x i k n : Nat} {h : zH} (h5 : i + 5 ≤ zEL E) (hL : zEL E ≤ 2560) (hV : IV h x) (hk : k + 41 ≤ 600000) (hn : n + 473 ≤ 7302250) (hK : ∀ h' k' n', k' ≤ k + 41 → n' ≤ n + 473 → IV h' x → zJ E mL_law Q 18 [some (.inr (zEb E + 1)), some (.inr x), some (.inr (x + 348)), some (.inl (nI (i + 5)))] [] h' k' n') : zwp E kL_law Q 188 1122 [some (.inr (zEb E + 1)), some (.inr x), some (.inr (x + 348)), some (.inl (nI i))] [] h k n := by
  obtain ⟨F, s, L, hV⟩ := hV
  obtain ⟨nr, nk, n0, td, hW, hI⟩ := IV_WR hV
  have hC := hV.1
  have hM := hV.2.2.1
  have hxk := hC.1.1.1
  simp (disch := omega) only [↓wL_law_1122, ↓wL_law_1123, ↓wL_law_1126, ↓wL_law_1127, ↓wL_law_1130, ↓wL_law_1133, ↓wL_law_1134, ↓wL_law_1135, ↓wL_law_1138, zQi_def, zQa_def, zQv_def, nI00, nI10, nI11, nI01, true_or, or_true, false_or, or_false, eq_self, true_implies, false_implies, not_true_eq_false, not_false_eq_true, zc9, zc1, zc2, zc3, zc1000, nI_m9, nI_add, pk_mul, ix_nI, vpT, zk_zpi, zn_zpi, zr_zpi, zk_zpa, zn_zpa, zr_zpa, zsz_zpi, zsz_zpa, zi_zpa, zpi_pa, zpa_zpa, true_and, and_true, and_self]
  exact ⟨hxk, pb_nextIn hC hW (law_Q hV (fun Qr hq => p_nextIn hV.2.1 hM hI hq) (fun h' hi => hK h' _ _ (by omega) (by omega) hi))⟩
set_option maxRecDepth 100000 in
theorem br_x {E : zE} {Q : Option zV → zH → Prop} {x i k n : Nat} {h : zH} (h5 : i + 5 ≤ zEL E) (hL : zEL E ≤ 2560) (hV : IV h x) (hk : k + 41 ≤ 600000) (hn : n + 473 ≤ 7302250) (hK : ∀ h' k' n', k' ≤ k + 41 → n' ≤ n + 473 → IV h' x → zJ E mL_law Q 18 [some (.inr (zEb E + 1)), some (.inr x), some (.inr (x + 348)), some (.inl (nI (i + 5)))] [] h' k' n') : zwp E kL_law Q 188 1135 [some (.inr (zEb E + 1)), some (.inr x), some (.inr (x + 348)), some (.inl (nI i))] [] h k n := by
  simp (disch := omega) only [↓wL_law_1135, ↓wL_law_1138, zQi_def, zQa_def, zQv_def, nI00, nI10, nI11, nI01, true_or, or_true, false_or, or_false, eq_self, true_implies, false_implies, not_true_eq_false, not_false_eq_true, zc9, zc1, zc2, zc3, zc1000, nI_m9, nI_add, pk_mul, ix_nI, vpT, zk_zpi, zn_zpi, zr_zpi, zk_zpa, zn_zpa, zr_zpa, zsz_zpi, zsz_zpa, zi_zpa, zpi_pa, zpa_zpa, true_and, and_true, and_self]
  exact hK h _ _ (by omega) (by omega) hV
theorem exit_lt {L i : Nat} (hL : L ≤ 2560) (hi : i ≤ 2565) (h : ¬ i + 5 ≤ L) : nI L - nI 5 < nI i := by
  by_cases h5 : 5 ≤ L
  · rw [pk_sub h5, i32lt, nIn (by omega), nIn (by omega)]; omega
  · rw [i32lt, nIn (n := i) (by omega)]
    have : (nI L - nI 5).toInt < 0 := by
      rcases (show L = 0 ∨ L = 1 ∨ L = 2 ∨ L = 3 ∨ L = 4 by omega) with rfl | rfl | rfl | rfl | rfl <;> decide
    omega
theorem exit_nlt {L i : Nat} (hL : L ≤ 2560) (h : i + 5 ≤ L) : ¬ nI L - nI 5 < nI i := by
  rw [pk_sub (by omega), i32lt, nIn (by omega), nIn (by omega)]; omega
set_option maxRecDepth 100000 in
theorem l_law {E : zE} {Q : Option zV → zH → Prop} {x : Nat} (hL : zEL E ≤ 2560) (hQ : ∀ h, Q (some (.inl (nI 1))) h) (d : Nat) : ∀ i h k n, zEL E < i + d → i ≤ zEL E → k ≤ 400 + 41 * i → n ≤ 14000 + 473 * i → IV h x → zJ E mL_law Q 18 [some (.inr (zEb E + 1)), some (.inr x), some (.inr (x + 348)), some (.inl (nI i))] [] h k n := by
  induction d with
  | zero => intro i h k n h1 h2; omega
  | succ d ih =>
    intro i h k n hd hi hk hn hV
    by_cases h5 : i + 5 ≤ zEL E
    · have hc := exit_nlt hL h5
      refine jL_law 200 ?_
      simp (disch := omega) only [↓wL_law_18, ↓wL_law_19, ↓wL_law_20, ↓wL_law_21, ↓wL_law_22, ↓wL_law_23, ↓wL_law_26, ↓wL_law_27, ↓wL_law_28, ↓wL_law_29, ↓wL_law_31, ↓wL_law_32, zQi_def, zQa_def, zQv_def, nI00, nI10, nI11, nI01, true_or, or_true, false_or, or_false, eq_self, true_implies, false_implies, not_true_eq_false, not_false_eq_true, zc9, zc1, zc2, zc3, zc1000, nI_m9, nI_add, pk_mul, ix_nI, vpT, zk_zpi, zn_zpi, zr_zpi, zk_zpa, zn_zpa, zr_zpa, zsz_zpi, zsz_zpa, zi_zpa, zpi_pa, zpa_zpa, true_and, and_true, and_self, eq_false hc]
      have hK : ∀ h' k' n', k' ≤ k + 41 → n' ≤ n + 473 → IV h' x → zJ E mL_law Q 18 [some (.inr (zEb E + 1)), some (.inr x), some (.inr (x + 348)), some (.inl (nI (i + 5)))] [] h' k' n' := fun h' k' n' hk' hn' hV' => ih (i + 5) h' k' n' (by omega) (by omega) (by omega) (by omega) hV'
      have ek : k + 41 ≤ 600000 := by omega
      have en : n + 473 ≤ 7302250 := by omega
      exact ⟨fun _ => br_x h5 hL hV ek en hK, fun _ => br_0 h5 hL hV ek en hK, fun _ => br_1 h5 hL hV ek en hK, fun _ => br_2 h5 hL hV ek en hK, fun _ => br_3 h5 hL hV ek en hK, fun _ => br_4 h5 hL hV ek en hK, fun _ => br_5 h5 hL hV ek en hK, fun _ => br_6 h5 hL hV ek en hK, fun _ => br_7 h5 hL hV ek en hK, fun _ => br_8 h5 hL hV ek en hK, fun _ => br_9 h5 hL hV ek en hK, fun _ => br_10 h5 hL hV ek en hK, fun _ => br_11 h5 hL hV ek en hK, fun _ => br_12 h5 hL hV ek en hK, fun _ => br_13 h5 hL hV ek en hK, fun _ => br_14 h5 hL hV ek en hK, fun _ => br_15 h5 hL hV ek en hK, fun _ => br_16 h5 hL hV ek en hK, fun _ => br_17 h5 hL hV ek en hK, fun _ => br_18 h5 hL hV ek en hK, fun _ => br_19 h5 hL hV ek en hK, fun _ => br_20 h5 hL hV ek en hK, fun _ => br_21 h5 hL hV ek en hK, fun _ => br_22 h5 hL hV ek en hK, fun _ => br_23 h5 hL hV ek en hK, fun _ => br_24 h5 hL hV ek en hK, fun _ => br_25 h5 hL hV ek en hK, fun _ => br_26 h5 hL hV ek en hK, fun _ => br_27 h5 hL hV ek en hK, fun _ => br_28 h5 hL hV ek en hK, fun _ => br_29 h5 hL hV ek en hK, fun _ => br_30 h5 hL hV ek en hK⟩
    · have hc := exit_lt hL (by omega) h5
      refine jL_law 200 ?_
      simp (disch := omega) only [↓wL_law_18, ↓wL_law_19, ↓wL_law_20, ↓wL_law_21, ↓wL_law_22, ↓wL_law_23, ↓wL_law_26, ↓wL_law_27, ↓wL_law_28, ↓wL_law_29, ↓wL_law_31, ↓wL_law_32, ↓wL_law_1141, ↓wL_law_1142, zQi_def, zQa_def, zQv_def, nI00, nI10, nI11, nI01, true_or, or_true, false_or, or_false, eq_self, true_implies, false_implies, not_true_eq_false, not_false_eq_true, zc9, zc1, zc2, zc3, zc1000, nI_m9, nI_add, pk_mul, ix_nI, vpT, zk_zpi, zn_zpi, zr_zpi, zk_zpa, zn_zpa, zr_zpa, zsz_zpi, zsz_zpa, zi_zpa, zpi_pa, zpa_zpa, true_and, and_true, and_self, eq_true hc]
      exact hQ h
