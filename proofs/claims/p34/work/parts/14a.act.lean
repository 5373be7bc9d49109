/-! The law: what act does. -/
def sh (v : Int32) (k : Nat) : Int32 := v >>> (nI k &&& 31)
def kd (v : Int32) : Int := (v &&& nI 15).toInt
def oAct (r : Nat → Int32) (nr nk n td : Nat) (v : Int32) : Int32 × Option (Nat → Int32) :=
  if kd v = 0 then oTide r (nI (lw (sh v 4) 14)) (nI (lw (sh v 8) 100))
  else if kd v = 1 then oSwell r td (nI (td + lw (sh v 6) 4)) (nI (lw (sh v 12) 8))
  else if kd v = 2 then oCome r nk (nI (lw (sh v 4) 3))
  else if kd v = 3 ∨ kd v = 4 then oRel r nr nk n td (nI (lw (sh v 4) nr)) (nI (td + lw (sh v 6) 4)) (nI (lw (sh v 8) nk)) (nI (lw (sh v 11) nk))
  else if kd v = 5 ∨ kd v = 6 ∨ kd v = 7 then oChg r nr nk n td (nI (lw (sh v 4) nr)) (nI (td + lw (sh v 6) 4)) (nI (lw (sh v 8) nk)) (if lw (sh v 14) 3 = 0 then nI 0 else nI 1)
  else if kd v = 8 then oBri r nr n td (nI (lw (sh v 4) nr)) (nI (td + lw (sh v 6) 4)) (nI (lw (sh v 11) 3)) (nI (1 + lw (sh v 13) 300))
  else if kd v = 9 then oKeep r nr (nI (lw (sh v 4) nr)) (nI (lw (sh v 11) 3)) (nI (lw (sh v 13) 50))
  else if kd v = 10 then oCan r n (nI (lw (sh v 4) (n + 1)))
  else if kd v = 11 then oExc r n (nI (lw (sh v 4) (n + 1))) (nI (lw (sh v 8) (n + 1)))
  else if kd v = 12 then oRock r nr (nI (lw (sh v 4) 70)) (nI (lw (sh v 11) 10)) (nI (1 + lw (sh v 15) 3))
  else oPass r nr nk td (nI (1 + lw (sh v 4) 4))
theorem c_act {E : zE} {Q : Int32 → zH → Prop} {h : zH} {x : Nat} {r sv tx : Nat → Int32} {s L nr nk n td : Nat} {v : Int32} (hS : ST h x r sv tx s L nr nk n td) (hnr : 0 < nr) (hnk : 0 < nk) (hq : UO Q h x (FF r sv tx) s L (oAct r nr nk n td v)) : zMi E mL_act [.inr x, .inl v] h Q := by
  have k9 := hS.k9
  have hI := hS.RI
  have hn := hI.2.2.2.2.1
  (refine eL_act 200 ?_; simp (disch := omega) only [↓wL_act_0, ↓wL_act_1, ↓wL_act_2, ↓wL_act_5, ↓wL_act_6, ↓wL_act_7, ↓wL_act_8, ↓wL_act_9, ↓wL_act_10, ↓wL_act_11, ↓wL_act_14, ↓wL_act_17, ↓wL_act_18, ↓wL_act_19, ↓wL_act_20, ↓wL_act_22, ↓wL_act_23, ↓wL_act_24, ↓wL_act_27, ↓wL_act_28, ↓wL_act_30, ↓wL_act_31, ↓wL_act_33, ↓wL_act_34, ↓wL_act_35, ↓wL_act_36, ↓wL_act_39, ↓wL_act_42, ↓wL_act_44, ↓wL_act_45, ↓wL_act_47, ↓wL_act_48, ↓wL_act_49, ↓wL_act_50, ↓wL_act_53, ↓wL_act_56, ↓wL_act_58, ↓wL_act_59, ↓wL_act_60, ↓wL_act_63, ↓wL_act_64, ↓wL_act_65, ↓wL_act_67, ↓wL_act_68, ↓wL_act_70, ↓wL_act_71, ↓wL_act_136, ↓wL_act_137, ↓wL_act_138, ↓wL_act_139, ↓wL_act_140, ↓wL_act_142, ↓wL_act_145, ↓wL_act_146, ↓wL_act_148, ↓wL_act_149, ↓wL_act_151, ↓wL_act_154, ↓wL_act_157, ↓wL_act_158, ↓wL_act_159, ↓wL_act_161, ↓wL_act_162, ↓wL_act_164, ↓wL_act_165, ↓wL_act_167, ↓wL_act_170, ↓wL_act_173, ↓wL_act_174, ↓wL_act_175, ↓wL_act_176, ↓wL_act_177, ↓wL_act_178, ↓wL_act_179, ↓wL_act_182, ↓wL_act_185, ↓wL_act_186, ↓wL_act_187, ↓wL_act_188, ↓wL_act_190, ↓wL_act_192, ↓wL_act_194, ↓wL_act_197, ↓wL_act_198, ↓wL_act_199, ↓wL_act_200, ↓wL_act_202, ↓wL_act_204, ↓wL_act_205, ↓wL_act_207, ↓wL_act_208, ↓wL_act_209, ↓wL_act_212, ↓wL_act_215, ↓wL_act_216, ↓wL_act_219, ↓wL_act_220, ↓wL_act_223, ↓wL_act_224, ↓wL_act_225, ↓wL_act_226, ↓wL_act_228, ↓wL_act_229, ↓wL_act_231, ↓wL_act_232, ↓wL_act_233, ↓wL_act_236, ↓wL_act_237, ↓wL_act_238, ↓wL_act_240, ↓wL_act_241, ↓wL_act_244, ↓wL_act_247, ↓wL_act_248, ↓wL_act_251, ↓wL_act_252, ↓wL_act_253, ↓wL_act_254, ↓wL_act_255, ↓wL_act_257, ↓wL_act_258, ↓wL_act_259, ↓wL_act_262, ↓wL_act_263, ↓wL_act_265, ↓wL_act_266, ↓wL_act_268, ↓wL_act_271, ↓wL_act_274, ↓wL_act_275, ↓wL_act_276, ↓wL_act_277, ↓wL_act_278, ↓wL_act_279, ↓wL_act_281, ↓wL_act_284, ↓wL_act_287, ↓wL_act_288, ↓wL_act_289, ↓wL_act_290, ↓wL_act_291, ↓wL_act_292, ↓wL_act_294, ↓wL_act_297, ↓wL_act_298, ↓wL_act_300, ↓wL_act_301, ↓wL_act_303, ↓wL_act_306, ↓wL_act_309, ↓wL_act_310, ↓wL_act_311, ↓wL_act_312, ↓wL_act_313, ↓wL_act_314, ↓wL_act_316, ↓wL_act_319, ↓wL_act_320, ↓wL_act_322, ↓wL_act_323, ↓wL_act_325, ↓wL_act_328, ↓wL_act_329, ↓wL_act_330, ↓wL_act_332, ↓wL_act_333, ↓wL_act_334, ↓wL_act_337, ↓wL_act_338, ↓wL_act_341, ↓wL_act_342, ↓wL_act_343, ↓wL_act_344, ↓wL_act_345, ↓wL_act_346, ↓wL_act_347, ↓wL_act_348, ↓wL_act_351, ↓wL_act_352, ↓wL_act_355, zQi_def, zQa_def, zQv_def, nI00, nI10, nI11, nI01, true_or, or_true, false_or, or_false, eq_self, true_implies, false_implies, not_true_eq_false, not_false_eq_true, zc9, zc1, zc2, zc3, zc1000, nI_m9, nI_add, pk_mul, ix_nI, vpT, zk_zpi, zn_zpi, zr_zpi, zk_zpa, zn_zpa, zr_zpa, zsz_zpi, zsz_zpa, zi_zpa, zpi_pa, zpa_zpa, true_and, and_true, and_self, k9])
  refine s_count hS ?_
  rw [qCnt0, hI.2.2.2.1]
  refine ⟨k9, s_count hS ?_⟩
  rw [qCnt1, hI.1]
  refine c_low hnr (by omega) ?_
  refine c_low (m := 4) (by omega) (by omega) ?_
  refine ⟨k9, s_count hS ?_⟩
  rw [qCnt2, hI.2.1]
  refine c_low hnk (by omega) ?_
  refine ⟨k9, s_count hS ?_⟩
  rw [qCnt2, hI.2.1]
  refine c_low hnk (by omega) ?_
  refine ⟨k9, s_count hS ?_⟩
  rw [qCnt3, hI.2.2.1]
  simp only [nI_add]
  have hF : FF r sv tx 1 = r := rfl
  refine ⟨fun hk => ?_, fun hk => ?_, fun hk => ?_, fun hk => ?_, fun hk => ?_, fun hk => ?_, fun hk => ?_, fun hk => ?_, fun hk => ?_, fun hk => ?_, fun hk => ?_, fun hk => ?_, fun hk => ?_, fun hk => ?_⟩
  · unfold oAct at hq; rw [if_neg (by unfold kd; omega), if_neg (by unfold kd; omega), if_neg (by unfold kd; omega), if_neg (by unfold kd; omega), if_neg (by unfold kd; omega), if_neg (by unfold kd; omega), if_neg (by unfold kd; omega), if_neg (by unfold kd; omega), if_neg (by unfold kd; omega), if_neg (by unfold kd; omega)] at hq
    refine c_low (by omega) (by omega) ?_
    rw [nI_add]
    exact ⟨k9, pb_pass (F := FF r sv tx) hS.1 hS.2 hq⟩
  · unfold oAct at hq; rw [if_pos (by unfold kd; omega)] at hq
    refine c_low (by omega) (by omega) ?_
    refine c_low (by omega) (by omega) ?_
    exact ⟨k9, pb_setTide (F := FF r sv tx) hS.1 hS.2 hq⟩
  · unfold oAct at hq; rw [if_neg (by unfold kd; omega), if_pos (by unfold kd; omega)] at hq
    refine c_low (by omega) (by omega) ?_
    exact ⟨k9, pb_setSwell (F := FF r sv tx) hS.1 hS.2 hq⟩
  · unfold oAct at hq; rw [if_neg (by unfold kd; omega), if_neg (by unfold kd; omega), if_pos (by unfold kd; omega)] at hq
    refine c_low (by omega) (by omega) ?_
    exact ⟨k9, pb_come (F := FF r sv tx) hS.1 hS.2 hq⟩
  · unfold oAct at hq; rw [if_neg (by unfold kd; omega), if_neg (by unfold kd; omega), if_neg (by unfold kd; omega), if_pos (by unfold kd; omega)] at hq
    exact ⟨k9, pb_relieve (F := FF r sv tx) hS.1 hS.2 hq⟩
  · unfold oAct at hq; rw [if_neg (by unfold kd; omega), if_neg (by unfold kd; omega), if_neg (by unfold kd; omega), if_pos (by unfold kd; omega)] at hq
    exact ⟨k9, pb_relieve (F := FF r sv tx) hS.1 hS.2 hq⟩
  · unfold oAct at hq; rw [if_neg (by unfold kd; omega), if_neg (by unfold kd; omega), if_neg (by unfold kd; omega), if_neg (by unfold kd; omega), if_pos (by unfold kd; omega)] at hq
    refine c_low (by omega) (by omega) ?_
    refine ⟨fun h0 => ?_, fun h0 => ?_⟩
    · rw [nI_eq0 (by have := lw_lt (sh v 14) (m := 3) (by omega); unfold sh at this; omega)] at h0
      have h0 : ¬ lw (sh v 14) 3 = 0 := h0
      rw [if_neg h0] at hq
      exact ⟨k9, pb_change (F := FF r sv tx) hS.1 hS.2 hq⟩
    · rw [nI_eq0 (by have := lw_lt (sh v 14) (m := 3) (by omega); unfold sh at this; omega)] at h0
      have h0 : lw (sh v 14) 3 = 0 := h0
      rw [if_pos h0] at hq
      exact ⟨k9, pb_change (F := FF r sv tx) hS.1 hS.2 hq⟩
  · unfold oAct at hq; rw [if_neg (by unfold kd; omega), if_neg (by unfold kd; omega), if_neg (by unfold kd; omega), if_neg (by unfold kd; omega), if_pos (by unfold kd; omega)] at hq
    refine c_low (by omega) (by omega) ?_
    refine ⟨fun h0 => ?_, fun h0 => ?_⟩
    · rw [nI_eq0 (by have := lw_lt (sh v 14) (m := 3) (by omega); unfold sh at this; omega)] at h0
      have h0 : ¬ lw (sh v 14) 3 = 0 := h0
      rw [if_neg h0] at hq
      exact ⟨k9, pb_change (F := FF r sv tx) hS.1 hS.2 hq⟩
    · rw [nI_eq0 (by have := lw_lt (sh v 14) (m := 3) (by omega); unfold sh at this; omega)] at h0
      have h0 : lw (sh v 14) 3 = 0 := h0
      rw [if_pos h0] at hq
      exact ⟨k9, pb_change (F := FF r sv tx) hS.1 hS.2 hq⟩
  · unfold oAct at hq; rw [if_neg (by unfold kd; omega), if_neg (by unfold kd; omega), if_neg (by unfold kd; omega), if_neg (by unfold kd; omega), if_pos (by unfold kd; omega)] at hq
    refine c_low (by omega) (by omega) ?_
    refine ⟨fun h0 => ?_, fun h0 => ?_⟩
    · rw [nI_eq0 (by have := lw_lt (sh v 14) (m := 3) (by omega); unfold sh at this; omega)] at h0
      have h0 : ¬ lw (sh v 14) 3 = 0 := h0
      rw [if_neg h0] at hq
      exact ⟨k9, pb_change (F := FF r sv tx) hS.1 hS.2 hq⟩
    · rw [nI_eq0 (by have := lw_lt (sh v 14) (m := 3) (by omega); unfold sh at this; omega)] at h0
      have h0 : lw (sh v 14) 3 = 0 := h0
      rw [if_pos h0] at hq
      exact ⟨k9, pb_change (F := FF r sv tx) hS.1 hS.2 hq⟩
  · unfold oAct at hq; rw [if_neg (by unfold kd; omega), if_neg (by unfold kd; omega), if_neg (by unfold kd; omega), if_neg (by unfold kd; omega), if_neg (by unfold kd; omega), if_pos (by unfold kd; omega)] at hq
    refine c_low (by omega) (by omega) ?_
    refine c_low (by omega) (by omega) ?_
    rw [nI_add]
    exact ⟨k9, pb_bring (F := FF r sv tx) hS.1 hS.2 hq⟩
  · unfold oAct at hq; rw [if_neg (by unfold kd; omega), if_neg (by unfold kd; omega), if_neg (by unfold kd; omega), if_neg (by unfold kd; omega), if_neg (by unfold kd; omega), if_neg (by unfold kd; omega), if_pos (by unfold kd; omega)] at hq
    refine c_low (by omega) (by omega) ?_
    refine c_low (by omega) (by omega) ?_
    exact ⟨k9, pb_setKeep (F := FF r sv tx) hS.1 hS.2 hq⟩
  · unfold oAct at hq; rw [if_neg (by unfold kd; omega), if_neg (by unfold kd; omega), if_neg (by unfold kd; omega), if_neg (by unfold kd; omega), if_neg (by unfold kd; omega), if_neg (by unfold kd; omega), if_neg (by unfold kd; omega), if_pos (by unfold kd; omega)] at hq
    refine c_low (by omega) (by omega) ?_
    exact ⟨k9, pb_cancel (F := FF r sv tx) hS.1 hS.2 hq⟩
  · unfold oAct at hq; rw [if_neg (by unfold kd; omega), if_neg (by unfold kd; omega), if_neg (by unfold kd; omega), if_neg (by unfold kd; omega), if_neg (by unfold kd; omega), if_neg (by unfold kd; omega), if_neg (by unfold kd; omega), if_neg (by unfold kd; omega), if_pos (by unfold kd; omega)] at hq
    refine c_low (by omega) (by omega) ?_
    refine c_low (by omega) (by omega) ?_
    exact ⟨k9, pb_exchange (F := FF r sv tx) hS.1 hS.2 hq⟩
  · unfold oAct at hq; rw [if_neg (by unfold kd; omega), if_neg (by unfold kd; omega), if_neg (by unfold kd; omega), if_neg (by unfold kd; omega), if_neg (by unfold kd; omega), if_neg (by unfold kd; omega), if_neg (by unfold kd; omega), if_neg (by unfold kd; omega), if_neg (by unfold kd; omega), if_pos (by unfold kd; omega)] at hq
    refine c_low (by omega) (by omega) ?_
    refine c_low (by omega) (by omega) ?_
    refine c_low (by omega) (by omega) ?_
    rw [nI_add]
    exact ⟨k9, pb_addRock (F := FF r sv tx) hS.1 hS.2 hq⟩

theorem tlAct {r : Nat → Int32} {nr nk n td : Nat} {v : Int32} (hI : RI r nr nk n td) : TL r (oAct r nr nk n td v) := by
  have hn := hI.2.2.2.2.1
  unfold oAct
  (repeat' split)
  · exact tlTide
  · exact tlSwell
  · exact tlCome (by omega)
  · exact tlRel (by omega)
  · exact tlChg (by omega)
  · exact tlChg (by omega)
  · exact tlBri (by omega)
  · exact tlKeep (by omega)
  · exact tlCan (by omega)
  · exact tlExc (by omega)
  · exact tlRock (by omega)
  · exact tlPass hI
def cmA (came : Nat → Int32) (nk td : Nat) (v : Int32) : Nat → Int32 := if kd v = 2 then zup came nk (nI td) else came
def dlA (v : Int32) : Int32 := if 2 < kd v ∧ kd v < 9 then 1 else if kd v = 10 then -1 else 0
theorem nxAct {r : Nat → Int32} {nr nk n td : Nat} {came : Nat → Int32} {v : Int32} (hI : RI r nr nk n td) (hX : XI r nr nk n td) (hV : IV r nr nk n td came) : NX0 r (oAct r nr nk n td v) nr nk n td came (cmA came nk td v) (dlA v) := by
  have hn := hI.2.2.2.2.1
  have c1 : kd v ≠ 2 → cmA came nk td v = came := fun h => if_neg h
  have d0 : ¬ (2 < kd v ∧ kd v < 9) → kd v ≠ 10 → dlA v = 0 := fun h g => by unfold dlA; rw [if_neg h, if_neg g]
  have d1 : 2 < kd v ∧ kd v < 9 → dlA v = 1 := fun h => if_pos h
  unfold oAct
  split
  · rename_i h; rw [c1 (by omega), d0 (by omega) (by omega)]; exact nxTide hI hX hV
  split
  · rename_i h; rw [c1 (by omega), d0 (by omega) (by omega)]; exact nxSwell hI hX hV
  split
  · rename_i h; rw [d0 (by omega) (by omega), show cmA came nk td v = zup came nk (nI td) from if_pos h]; exact nxCome hI hV
  split
  · rename_i h; rw [c1 (by omega), d1 (by omega)]; exact nxRel hI hV
  split
  · rename_i h; rw [c1 (by omega), d1 (by omega)]; exact nxChg hI hV
  split
  · rename_i h; rw [c1 (by omega), d1 (by omega)]; exact nxBri hI hV
  split
  · rename_i h; rw [c1 (by omega), d0 (by omega) (by omega)]; exact nxKeep hI hX hV
  split
  · rename_i h; rw [c1 (by omega), show dlA v = -1 by unfold dlA; rw [if_neg (by omega), if_pos h]]; exact nxCan hI hV
  split
  · rename_i h; rw [c1 (by omega), d0 (by omega) (by omega)]; exact nxExc hI hX hV
  split
  · rename_i h; rw [c1 (by omega), d0 (by omega) (by omega)]; exact nxRock hI hV
  · rw [c1 (by omega), d0 (by omega) (by omega)]
    exact nxPass hI hV (by rw [nI_leI (by have := lw_lt (sh v 4) (m := 4) (by omega); omega) (by omega)]; have := lw_lt (sh v 4) (m := 4) (by omega); omega)
theorem come_0 {r : Nat → Int32} {nr nk n td : Nat} {v : Int32} (h : kd v = 2) : ∀ r', (oAct r nr nk n td v).2 = some r' → r' 0 = r 0 := by
  intro r' e
  unfold oAct at e
  rw [if_neg (by omega), if_neg (by omega), if_pos h] at e
  unfold oCome at e
  split at e
  · cases e
    unfold kpN
    rw [zup_ne (by omega), zup_ne (by omega), clr_at (by omega), zup_ne (by omega)]
  · cases e
