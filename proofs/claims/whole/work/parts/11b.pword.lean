/-! The reference: words. -/
theorem d_fail {E : zE} {Q : zH → Prop} {m : Nat} {v : Int32} {h : zH} {F : Nat → Nat → Int32} (hm : MS h m) (hf : F 0 13 = -1) (hq : Q (MST h m (zup F 0 (zup (F 0) 13 v)))) : zMv E mX9_fail [.inr m, .inl v] (MST h m F) Q := by
  obtain ⟨mk, ⟨mr1, mr2, mr3, mr4, mr6, mr8⟩, ⟨mk1, mk2, mk3, mk4, mk5, mk6⟩, ⟨mn1, mn2, mn3, mn4, mn5, mn6⟩⟩ := id hm
  have e : ¬ (0 : Int32) ≤ -1 := by decide
  (refine eX9_fail 200 ?_; simp (disch := omega) only [↓wX9_fail_0, ↓wX9_fail_1, ↓wX9_fail_2, ↓wX9_fail_5, ↓wX9_fail_8, ↓wX9_fail_9, ↓wX9_fail_12, ↓wX9_fail_13, ↓wX9_fail_16, ↓wX9_fail_19, zQi_def, zQa_def, zQv_def, nI00, nI10, nI11, nI01, true_or, or_true, false_or, or_false, eq_self, true_implies, false_implies, not_true_eq_false, not_false_eq_true, zc9, zc1, zc2, zc3, zc1000, nI_m9, nI_add, pk_mul, ix_nI, vpT, zk_zpi, zn_zpi, zr_zpi, zk_zpa, zn_zpa, zr_zpa, zsz_zpi, zsz_zpa, zi_zpa, zpi_pa, zpa_zpa, true_and, and_true, and_self, zk_MST, zn_MST, zr_MST, zsz_MST, zi_MST, zi_MST0, zpa_MST, zpa_MST0, mk, mr1, mr2, mr3, mr4, mr6, mr8, mk1, mk2, mk3, mk4, mk5, mk6, mn1, mn2, mn3, mn4, mn5, mn6, hf, e])
  exact hq
def sp6 (i : Nat) (a b c d e f : Int32) : Int32 := if i = 0 then a else if i = 1 then b else if i = 2 then c else if i = 3 then d else if i = 4 then e else if i = 5 then f else nI 0
theorem d_spelled {E : zE} {Q : Int32 → zH → Prop} {i : Nat} {a b c d e f : Int32} {h : zH} (hi : i < 1000) (hq : Q (sp6 i a b c d e f) h) : zMi E mX9_spelled [.inl (nI i), .inl a, .inl b, .inl c, .inl d, .inl e, .inl f] h Q := by
  unfold sp6 at hq
  (refine eX9_spelled 200 ?_; simp (disch := omega) only [↓wX9_spelled_0, ↓wX9_spelled_1, ↓wX9_spelled_4, ↓wX9_spelled_5, ↓wX9_spelled_8, ↓wX9_spelled_9, ↓wX9_spelled_10, ↓wX9_spelled_13, ↓wX9_spelled_14, ↓wX9_spelled_17, ↓wX9_spelled_18, ↓wX9_spelled_19, ↓wX9_spelled_22, ↓wX9_spelled_23, ↓wX9_spelled_26, ↓wX9_spelled_27, ↓wX9_spelled_28, ↓wX9_spelled_31, ↓wX9_spelled_33, ↓wX9_spelled_36, ↓wX9_spelled_37, ↓wX9_spelled_38, ↓wX9_spelled_41, ↓wX9_spelled_43, ↓wX9_spelled_46, ↓wX9_spelled_47, ↓wX9_spelled_48, ↓wX9_spelled_51, ↓wX9_spelled_53, ↓wX9_spelled_56, ↓wX9_spelled_57, zQi_def, zQa_def, zQv_def, nI00, nI10, nI11, nI01, true_or, or_true, false_or, or_false, eq_self, true_implies, false_implies, not_true_eq_false, not_false_eq_true, zc9, zc1, zc2, zc3, zc1000, nI_m9, nI_add, pk_mul, ix_nI, vpT, zk_zpi, zn_zpi, zr_zpi, zk_zpa, zn_zpa, zr_zpa, zsz_zpi, zsz_zpa, zi_zpa, zpi_pa, zpa_zpa, true_and, and_true, and_self, nI_eq0, nI_eq])
  (repeat' (first | (with_reducible apply And.intro) | (with_reducible intro ho)))
  all_goals simp only [*, if_true, if_false] at hq
  all_goals (first | exact hq | (simp at hq; exact hq) | skip)
def lO (w i : Nat) : Int32 := if i < zSl w then zSb w i else nI 0
theorem sp_big {i w : Nat} (h6 : 6 ≤ i) (hw : w < 8) (a b c d e f : Int32) : sp6 i a b c d e f = lO w i := by
  have := zSl_le w (by omega)
  unfold sp6 lO
  rw [if_neg (by omega), if_neg (by omega), if_neg (by omega), if_neg (by omega), if_neg (by omega), if_neg (by omega), if_neg (by omega)]
theorem sp_w (i : Nat) : sp6 i (nI 114) (nI 111) (nI 99) (nI 107) (nI 0) (nI 0) = lO 0 i ∧ sp6 i (nI 107) (nI 101) (nI 101) (nI 112) (nI 101) (nI 114) = lO 1 i ∧ sp6 i (nI 114) (nI 101) (nI 108) (nI 105) (nI 101) (nI 102) = lO 2 i ∧ sp6 i (nI 111) (nI 117) (nI 116) (nI 0) (nI 0) (nI 0) = lO 3 i ∧ sp6 i (nI 97) (nI 115) (nI 104) (nI 111) (nI 114) (nI 101) = lO 4 i ∧ sp6 i (nI 98) (nI 114) (nI 105) (nI 110) (nI 103) (nI 0) = lO 5 i ∧ sp6 i (nI 115) (nI 119) (nI 101) (nI 108) (nI 108) (nI 0) = lO 6 i ∧ sp6 i (nI 112) (nI 97) (nI 115) (nI 115) (nI 0) (nI 0) = lO 7 i := by
  by_cases h6 : 6 ≤ i
  · exact ⟨sp_big h6 (by omega) _ _ _ _ _ _, sp_big h6 (by omega) _ _ _ _ _ _, sp_big h6 (by omega) _ _ _ _ _ _, sp_big h6 (by omega) _ _ _ _ _ _, sp_big h6 (by omega) _ _ _ _ _ _, sp_big h6 (by omega) _ _ _ _ _ _, sp_big h6 (by omega) _ _ _ _ _ _, sp_big h6 (by omega) _ _ _ _ _ _⟩
  · rcases (show i = 0 ∨ i = 1 ∨ i = 2 ∨ i = 3 ∨ i = 4 ∨ i = 5 by omega) with rfl | rfl | rfl | rfl | rfl | rfl <;> decide +kernel
theorem d_letterOf {E : zE} {Q : Int32 → zH → Prop} {w i : Nat} {h : zH} (hw : w < 8) (hi : i < 1000) (hq : Q (lO w i) h) : zMi E mX9_letterOf [.inl (nI w), .inl (nI i)] h Q := by
  obtain ⟨s0, s1, s2, s3, s4, s5, s6, s7⟩ := sp_w i
  rcases (show w = 0 ∨ w = 1 ∨ w = 2 ∨ w = 3 ∨ w = 4 ∨ w = 5 ∨ w = 6 ∨ w = 7 by omega) with rfl | rfl | rfl | rfl | rfl | rfl | rfl | rfl
  all_goals
    refine eX9_letterOf 200 ?_
    simp (disch := omega) only [↓wX9_letterOf_0, ↓wX9_letterOf_1, ↓wX9_letterOf_44, ↓wX9_letterOf_45, ↓wX9_letterOf_47, ↓wX9_letterOf_49, ↓wX9_letterOf_51, ↓wX9_letterOf_53, ↓wX9_letterOf_54, ↓wX9_letterOf_55, ↓wX9_letterOf_58, ↓wX9_letterOf_59, ↓wX9_letterOf_60, ↓wX9_letterOf_62, ↓wX9_letterOf_64, ↓wX9_letterOf_66, ↓wX9_letterOf_68, ↓wX9_letterOf_70, ↓wX9_letterOf_72, ↓wX9_letterOf_75, ↓wX9_letterOf_76, ↓wX9_letterOf_77, ↓wX9_letterOf_79, ↓wX9_letterOf_81, ↓wX9_letterOf_83, ↓wX9_letterOf_85, ↓wX9_letterOf_87, ↓wX9_letterOf_89, ↓wX9_letterOf_92, ↓wX9_letterOf_93, ↓wX9_letterOf_94, ↓wX9_letterOf_96, ↓wX9_letterOf_98, ↓wX9_letterOf_100, ↓wX9_letterOf_101, ↓wX9_letterOf_102, ↓wX9_letterOf_103, ↓wX9_letterOf_106, ↓wX9_letterOf_107, ↓wX9_letterOf_108, ↓wX9_letterOf_110, ↓wX9_letterOf_112, ↓wX9_letterOf_114, ↓wX9_letterOf_116, ↓wX9_letterOf_118, ↓wX9_letterOf_120, ↓wX9_letterOf_123, ↓wX9_letterOf_124, ↓wX9_letterOf_125, ↓wX9_letterOf_127, ↓wX9_letterOf_129, ↓wX9_letterOf_131, ↓wX9_letterOf_133, ↓wX9_letterOf_135, ↓wX9_letterOf_136, ↓wX9_letterOf_139, ↓wX9_letterOf_140, ↓wX9_letterOf_141, ↓wX9_letterOf_143, ↓wX9_letterOf_145, ↓wX9_letterOf_147, ↓wX9_letterOf_149, ↓wX9_letterOf_151, ↓wX9_letterOf_152, ↓wX9_letterOf_155, ↓wX9_letterOf_156, ↓wX9_letterOf_157, ↓wX9_letterOf_159, ↓wX9_letterOf_161, ↓wX9_letterOf_163, ↓wX9_letterOf_165, ↓wX9_letterOf_166, ↓wX9_letterOf_167, ↓wX9_letterOf_170, zQi_def, zQa_def, zQv_def, nI00, nI10, nI11, nI01, true_or, or_true, false_or, or_false, eq_self, true_implies, false_implies, not_true_eq_false, not_false_eq_true, zc9, zc1, zc2, zc3, zc1000, nI_m9, nI_add, pk_mul, ix_nI, vpT, zk_zpi, zn_zpi, zr_zpi, zk_zpa, zn_zpa, zr_zpa, zsz_zpi, zsz_zpa, zi_zpa, zpi_pa, zpa_zpa, true_and, and_true, and_self, nIn]
    (repeat' (first | (with_reducible apply And.intro) | (with_reducible intro ho)))
    all_goals (first | (exfalso; omega) | skip)
    refine d_spelled hi ?_
    (first | rw [s0] | rw [s1] | rw [s2] | rw [s3] | rw [s4] | rw [s5] | rw [s6] | rw [s7])
    exact hq
def iwB (tx : Nat → Int32) (w s n : Nat) : Nat → Bool
  | 0 => true
  | i + 1 => iwB tx w s n i && decide (lO w i = if i < n then tx (s + i) else nI 0)
theorem iwB_iff {tx : Nat → Int32} {w s n : Nat} : ∀ i, iwB tx w s n i = true ↔ ∀ j, j < i → lO w j = if j < n then tx (s + j) else nI 0
  | 0 => ⟨fun _ j hj => by omega, fun _ => rfl⟩
  | i + 1 => by
    unfold iwB
    rw [Bool.and_eq_true, decide_eq_true_eq, iwB_iff i]
    constructor
    · intro ⟨h1, h2⟩ j hj
      by_cases e : j = i
      · rw [e]; exact h2
      · exact h1 j (by omega)
    · intro hj
      exact ⟨fun j h => hj j (by omega), hj i (by omega)⟩
theorem zSb_nz : ∀ w, w < 8 → ∀ k, k < 6 → k < zSl w → ¬ zSb w k = nI 0 := by decide +kernel
theorem iwB_is {tx : Nat → Int32} {w s e L : Nat} (hw : w < 8) (hse : s ≤ e) (heL : e ≤ L) (htx : ∀ k, k < L → ¬ tx k = nI 0) : iwB tx w s (e - s) (e - s + 1) = true ↔ isWb tx s e w = true := by
  rw [iwB_iff, isWb_def]
  have hl := zSl_le w (by omega)
  constructor
  · intro h
    have hn : e - s = zSl w := by
      rcases Nat.lt_trichotomy (e - s) (zSl w) with q | q | q
      · have := h (e - s) (by omega)
        rw [if_neg (by omega)] at this
        unfold lO at this
        rw [if_pos q] at this
        exact absurd this (zSb_nz w hw _ (by omega) q)
      · exact q
      · have := h (zSl w) (by omega)
        rw [if_pos q] at this
        unfold lO at this
        rw [if_neg (by omega)] at this
        exact absurd this.symm (htx _ (by omega))
    refine ⟨hn, fun k hk => ?_⟩
    have := h k (by omega)
    rw [if_pos (by omega)] at this
    unfold lO at this
    rw [if_pos hk] at this
    exact this.symm
  · intro ⟨hn, h⟩ j hj
    unfold lO
    by_cases q : j < zSl w
    · rw [if_pos q, if_pos (by omega), h j q]
    · rw [if_neg q, if_neg (by omega)]
theorem l_isW {E : zE} {Q : Int32 → zH → Prop} {m L s e : Nat} {h : zH} {F : Nat → Nat → Int32} (hm : MS h m) (h7 : F 0 7 = nI L) (hL : L ≤ 140) (hs : F 0 11 = nI s) (he : F 0 12 = nI e) (hse : s ≤ e) (heL : e ≤ L) {w : Nat} (hw : w < 8) {k' n' : Nat} (hq : Q (zb (iwB (F 5) w s (e - s) (e - s + 1) = true)) (MST h m F)) (d : Nat) : ∀ i, i + d = e - s + 1 →
    zJ E mX9_isWord (zQi Q) 4 [some (.inr m), some (.inl (nI w)), some (.inl (zb (iwB (F 5) w s (e - s) i = true))), some (.inl (nI i))] [] (MST h m F) k' n' := by
  obtain ⟨mk, ⟨mr1, mr2, mr3, mr4, mr6, mr8⟩, ⟨mk1, mk2, mk3, mk4, mk5, mk6⟩, ⟨mn1, mn2, mn3, mn4, mn5, mn6⟩⟩ := id hm
  induction d with
  | zero =>
    intro i hi
    obtain rfl : i = e - s + 1 := by omega
    have hle : ¬ e - s + 1 ≤ e - s := by omega
    (refine jX9_isWord 200 ?_; simp (disch := omega) only [↓wX9_isWord_0, ↓wX9_isWord_1, ↓wX9_isWord_2, ↓wX9_isWord_3, ↓wX9_isWord_4, ↓wX9_isWord_5, ↓wX9_isWord_6, ↓wX9_isWord_9, ↓wX9_isWord_10, ↓wX9_isWord_13, ↓wX9_isWord_14, ↓wX9_isWord_17, ↓wX9_isWord_18, ↓wX9_isWord_21, ↓wX9_isWord_22, ↓wX9_isWord_23, ↓wX9_isWord_26, ↓wX9_isWord_27, ↓wX9_isWord_28, ↓wX9_isWord_31, ↓wX9_isWord_32, ↓wX9_isWord_35, ↓wX9_isWord_36, ↓wX9_isWord_39, ↓wX9_isWord_40, ↓wX9_isWord_41, ↓wX9_isWord_44, ↓wX9_isWord_45, ↓wX9_isWord_46, ↓wX9_isWord_49, ↓wX9_isWord_52, ↓wX9_isWord_53, ↓wX9_isWord_56, ↓wX9_isWord_57, ↓wX9_isWord_60, ↓wX9_isWord_61, ↓wX9_isWord_62, ↓wX9_isWord_65, ↓wX9_isWord_68, ↓wX9_isWord_69, zQi_def, zQa_def, zQv_def, nI00, nI10, nI11, nI01, true_or, or_true, false_or, or_false, eq_self, true_implies, false_implies, not_true_eq_false, not_false_eq_true, zc9, zc1, zc2, zc3, zc1000, nI_m9, nI_add, pk_mul, ix_nI, vpT, zk_zpi, zn_zpi, zr_zpi, zk_zpa, zn_zpa, zr_zpa, zsz_zpi, zsz_zpa, zi_zpa, zpi_pa, zpa_zpa, true_and, and_true, and_self, zk_MST, zn_MST, zr_MST, zsz_MST, zi_MST, zi_MST0, zpa_MST, zpa_MST0, mk, mr1, mr2, mr3, mr4, mr6, mr8, mk1, mk2, mk3, mk4, mk5, mk6, mn1, mn2, mn3, mn4, mn5, mn6, hs, he, pk_sub, nI_leI, ltle, hle, zb_01])
    exact hq
  | succ d ih =>
    intro i hi
    have hle : i ≤ e - s := by omega
    have t := ih (i + 1) (by omega)
    unfold iwB at t
    (refine jX9_isWord 200 ?_; simp (disch := omega) only [↓wX9_isWord_0, ↓wX9_isWord_1, ↓wX9_isWord_2, ↓wX9_isWord_3, ↓wX9_isWord_4, ↓wX9_isWord_5, ↓wX9_isWord_6, ↓wX9_isWord_9, ↓wX9_isWord_10, ↓wX9_isWord_13, ↓wX9_isWord_14, ↓wX9_isWord_17, ↓wX9_isWord_18, ↓wX9_isWord_21, ↓wX9_isWord_22, ↓wX9_isWord_23, ↓wX9_isWord_26, ↓wX9_isWord_27, ↓wX9_isWord_28, ↓wX9_isWord_31, ↓wX9_isWord_32, ↓wX9_isWord_35, ↓wX9_isWord_36, ↓wX9_isWord_39, ↓wX9_isWord_40, ↓wX9_isWord_41, ↓wX9_isWord_44, ↓wX9_isWord_45, ↓wX9_isWord_46, ↓wX9_isWord_49, ↓wX9_isWord_52, ↓wX9_isWord_53, ↓wX9_isWord_56, ↓wX9_isWord_57, ↓wX9_isWord_60, ↓wX9_isWord_61, ↓wX9_isWord_62, ↓wX9_isWord_65, ↓wX9_isWord_68, ↓wX9_isWord_69, zQi_def, zQa_def, zQv_def, nI00, nI10, nI11, nI01, true_or, or_true, false_or, or_false, eq_self, true_implies, false_implies, not_true_eq_false, not_false_eq_true, zc9, zc1, zc2, zc3, zc1000, nI_m9, nI_add, pk_mul, ix_nI, vpT, zk_zpi, zn_zpi, zr_zpi, zk_zpa, zn_zpa, zr_zpa, zsz_zpi, zsz_zpa, zi_zpa, zpi_pa, zpa_zpa, true_and, and_true, and_self, zk_MST, zn_MST, zr_MST, zsz_MST, zi_MST, zi_MST0, zpa_MST, zpa_MST0, mk, mr1, mr2, mr3, mr4, mr6, mr8, mk1, mk2, mk3, mk4, mk5, mk6, mn1, mn2, mn3, mn4, mn5, mn6, hs, he, pk_sub, nI_leI, ltle, hle, zb_eq0])
    by_cases c : iwB (F 5) w s (e - s) i = true
    · rw [c, Bool.true_and] at t
      simp only [eq_true c, nI00, nI10, nI11, nI01, true_or, or_true, false_or, or_false, eq_self, true_implies, false_implies, not_true_eq_false, not_false_eq_true, zc9, zc1, zc2, zc3, zc1000, nI_m9, nI_add, pk_mul, ix_nI, vpT, zk_zpi, zn_zpi, zr_zpi, zk_zpa, zn_zpa, zr_zpa, zsz_zpi, zsz_zpa, zi_zpa, zpi_pa, zpa_zpa, true_and, and_true, and_self]
      refine d_letterOf hw (by omega) ?_
      by_cases hn : i < e - s
      · have hle2 : ¬ e - s ≤ i := by omega
        rw [if_pos hn] at t
        try simp (disch := omega) only [↓wX9_isWord_0, ↓wX9_isWord_1, ↓wX9_isWord_2, ↓wX9_isWord_3, ↓wX9_isWord_4, ↓wX9_isWord_5, ↓wX9_isWord_6, ↓wX9_isWord_9, ↓wX9_isWord_10, ↓wX9_isWord_13, ↓wX9_isWord_14, ↓wX9_isWord_17, ↓wX9_isWord_18, ↓wX9_isWord_21, ↓wX9_isWord_22, ↓wX9_isWord_23, ↓wX9_isWord_26, ↓wX9_isWord_27, ↓wX9_isWord_28, ↓wX9_isWord_31, ↓wX9_isWord_32, ↓wX9_isWord_35, ↓wX9_isWord_36, ↓wX9_isWord_39, ↓wX9_isWord_40, ↓wX9_isWord_41, ↓wX9_isWord_44, ↓wX9_isWord_45, ↓wX9_isWord_46, ↓wX9_isWord_49, ↓wX9_isWord_52, ↓wX9_isWord_53, ↓wX9_isWord_56, ↓wX9_isWord_57, ↓wX9_isWord_60, ↓wX9_isWord_61, ↓wX9_isWord_62, ↓wX9_isWord_65, ↓wX9_isWord_68, ↓wX9_isWord_69, zQi_def, zQa_def, zQv_def, nI00, nI10, nI11, nI01, true_or, or_true, false_or, or_false, eq_self, true_implies, false_implies, not_true_eq_false, not_false_eq_true, zc9, zc1, zc2, zc3, zc1000, nI_m9, nI_add, pk_mul, ix_nI, vpT, zk_zpi, zn_zpi, zr_zpi, zk_zpa, zn_zpa, zr_zpa, zsz_zpi, zsz_zpa, zi_zpa, zpi_pa, zpa_zpa, true_and, and_true, and_self, zk_MST, zn_MST, zr_MST, zsz_MST, zi_MST, zi_MST0, zpa_MST, zpa_MST0, mk, mr1, mr2, mr3, mr4, mr6, mr8, mk1, mk2, mk3, mk4, mk5, mk6, mn1, mn2, mn3, mn4, mn5, mn6, hs, he, pk_sub, nI_leI, hle2]
        refine d_at hm h7 hL (by omega) ?_
        unfold cv
        rw [if_pos (by omega)]
        try simp (disch := omega) only [↓wX9_isWord_0, ↓wX9_isWord_1, ↓wX9_isWord_2, ↓wX9_isWord_3, ↓wX9_isWord_4, ↓wX9_isWord_5, ↓wX9_isWord_6, ↓wX9_isWord_9, ↓wX9_isWord_10, ↓wX9_isWord_13, ↓wX9_isWord_14, ↓wX9_isWord_17, ↓wX9_isWord_18, ↓wX9_isWord_21, ↓wX9_isWord_22, ↓wX9_isWord_23, ↓wX9_isWord_26, ↓wX9_isWord_27, ↓wX9_isWord_28, ↓wX9_isWord_31, ↓wX9_isWord_32, ↓wX9_isWord_35, ↓wX9_isWord_36, ↓wX9_isWord_39, ↓wX9_isWord_40, ↓wX9_isWord_41, ↓wX9_isWord_44, ↓wX9_isWord_45, ↓wX9_isWord_46, ↓wX9_isWord_49, ↓wX9_isWord_52, ↓wX9_isWord_53, ↓wX9_isWord_56, ↓wX9_isWord_57, ↓wX9_isWord_60, ↓wX9_isWord_61, ↓wX9_isWord_62, ↓wX9_isWord_65, ↓wX9_isWord_68, ↓wX9_isWord_69, zQi_def, zQa_def, zQv_def, nI00, nI10, nI11, nI01, true_or, or_true, false_or, or_false, eq_self, true_implies, false_implies, not_true_eq_false, not_false_eq_true, zc9, zc1, zc2, zc3, zc1000, nI_m9, nI_add, pk_mul, ix_nI, vpT, zk_zpi, zn_zpi, zr_zpi, zk_zpa, zn_zpa, zr_zpa, zsz_zpi, zsz_zpa, zi_zpa, zpi_pa, zpa_zpa, true_and, and_true, and_self]
        refine ⟨fun q => ?_, fun q => ?_⟩
        · rw [zb_f (fun w => q (of_decide_eq_true w))] at t; exact t
        · rw [zb_t (decide_eq_true q)] at t; exact t
      · have hle2 : e - s ≤ i := by omega
        rw [if_neg hn] at t
        try simp (disch := omega) only [↓wX9_isWord_0, ↓wX9_isWord_1, ↓wX9_isWord_2, ↓wX9_isWord_3, ↓wX9_isWord_4, ↓wX9_isWord_5, ↓wX9_isWord_6, ↓wX9_isWord_9, ↓wX9_isWord_10, ↓wX9_isWord_13, ↓wX9_isWord_14, ↓wX9_isWord_17, ↓wX9_isWord_18, ↓wX9_isWord_21, ↓wX9_isWord_22, ↓wX9_isWord_23, ↓wX9_isWord_26, ↓wX9_isWord_27, ↓wX9_isWord_28, ↓wX9_isWord_31, ↓wX9_isWord_32, ↓wX9_isWord_35, ↓wX9_isWord_36, ↓wX9_isWord_39, ↓wX9_isWord_40, ↓wX9_isWord_41, ↓wX9_isWord_44, ↓wX9_isWord_45, ↓wX9_isWord_46, ↓wX9_isWord_49, ↓wX9_isWord_52, ↓wX9_isWord_53, ↓wX9_isWord_56, ↓wX9_isWord_57, ↓wX9_isWord_60, ↓wX9_isWord_61, ↓wX9_isWord_62, ↓wX9_isWord_65, ↓wX9_isWord_68, ↓wX9_isWord_69, zQi_def, zQa_def, zQv_def, nI00, nI10, nI11, nI01, true_or, or_true, false_or, or_false, eq_self, true_implies, false_implies, not_true_eq_false, not_false_eq_true, zc9, zc1, zc2, zc3, zc1000, nI_m9, nI_add, pk_mul, ix_nI, vpT, zk_zpi, zn_zpi, zr_zpi, zk_zpa, zn_zpa, zr_zpa, zsz_zpi, zsz_zpa, zi_zpa, zpi_pa, zpa_zpa, true_and, and_true, and_self, zk_MST, zn_MST, zr_MST, zsz_MST, zi_MST, zi_MST0, zpa_MST, zpa_MST0, mk, mr1, mr2, mr3, mr4, mr6, mr8, mk1, mk2, mk3, mk4, mk5, mk6, mn1, mn2, mn3, mn4, mn5, mn6, hs, he, pk_sub, nI_leI, hle2]
        refine ⟨fun q => ?_, fun q => ?_⟩
        · rw [zb_f (fun w => q (of_decide_eq_true w))] at t; exact t
        · rw [zb_t (decide_eq_true q)] at t; exact t
    · have c' : ¬ iwB (F 5) w s (e - s) (e - s + 1) = true := fun q => c ((iwB_iff i).mpr (fun j hj => (iwB_iff _).mp q j (by omega)))
      rw [zb_f c'] at hq
      simp only [eq_false c, nI00, nI10, nI11, nI01, true_or, or_true, false_or, or_false, eq_self, true_implies, false_implies, not_true_eq_false, not_false_eq_true, zc9, zc1, zc2, zc3, zc1000, nI_m9, nI_add, pk_mul, ix_nI, vpT, zk_zpi, zn_zpi, zr_zpi, zk_zpa, zn_zpa, zr_zpa, zsz_zpi, zsz_zpa, zi_zpa, zpi_pa, zpa_zpa, true_and, and_true, and_self]
      rw [zb_f (fun q => q)]
      exact hq
theorem d_isWord {E : zE} {Q : Int32 → zH → Prop} {m L s e : Nat} {h : zH} {F : Nat → Nat → Int32} (hm : MS h m) (h7 : F 0 7 = nI L) (hL : L ≤ 140) (hs : F 0 11 = nI s) (he : F 0 12 = nI e) (hse : s ≤ e) (heL : e ≤ L) {w : Nat} (hw : w < 8) (htx : ∀ k, k < L → ¬ F 5 k = nI 0) (hq : Q (zb (isWb (F 5) s e w = true)) (MST h m F)) : zMi E mX9_isWord [.inr m, .inl (nI w)] (MST h m F) Q := by
  (refine eX9_isWord 200 ?_; simp (disch := omega) only [↓wX9_isWord_0, ↓wX9_isWord_1, ↓wX9_isWord_2, ↓wX9_isWord_3, ↓wX9_isWord_4, ↓wX9_isWord_5, ↓wX9_isWord_6, ↓wX9_isWord_9, ↓wX9_isWord_10, ↓wX9_isWord_13, ↓wX9_isWord_14, ↓wX9_isWord_17, ↓wX9_isWord_18, ↓wX9_isWord_21, ↓wX9_isWord_22, ↓wX9_isWord_23, ↓wX9_isWord_26, ↓wX9_isWord_27, ↓wX9_isWord_28, ↓wX9_isWord_31, ↓wX9_isWord_32, ↓wX9_isWord_35, ↓wX9_isWord_36, ↓wX9_isWord_39, ↓wX9_isWord_40, ↓wX9_isWord_41, ↓wX9_isWord_44, ↓wX9_isWord_45, ↓wX9_isWord_46, ↓wX9_isWord_49, ↓wX9_isWord_52, ↓wX9_isWord_53, ↓wX9_isWord_56, ↓wX9_isWord_57, ↓wX9_isWord_60, ↓wX9_isWord_61, ↓wX9_isWord_62, ↓wX9_isWord_65, ↓wX9_isWord_68, ↓wX9_isWord_69, zQi_def, zQa_def, zQv_def, nI00, nI10, nI11, nI01, true_or, or_true, false_or, or_false, eq_self, true_implies, false_implies, not_true_eq_false, not_false_eq_true, zc9, zc1, zc2, zc3, zc1000, nI_m9, nI_add, pk_mul, ix_nI, vpT, zk_zpi, zn_zpi, zr_zpi, zk_zpa, zn_zpa, zr_zpa, zsz_zpi, zsz_zpa, zi_zpa, zpi_pa, zpa_zpa, true_and, and_true, and_self])
  rw [show zb (isWb (F 5) s e w = true) = zb (iwB (F 5) w s (e - s) (e - s + 1) = true) from zb_iff (iwB_is hw hse heL htx).symm] at hq
  exact l_isW hm h7 hL hs he hse heL hw hq (e - s + 1) 0 (by omega)
theorem wdI_at {tx : Nat → Int32} {s e i : Nat} (hi : i < 8) (h : isWb tx s e i = true) (hj : ∀ j, j < i → ¬ isWb tx s e j = true) : wdI tx s e = i := by
  unfold wdI
  rcases (show i = 0 ∨ i = 1 ∨ i = 2 ∨ i = 3 ∨ i = 4 ∨ i = 5 ∨ i = 6 ∨ i = 7 by omega) with rfl | rfl | rfl | rfl | rfl | rfl | rfl | rfl
  · rw [if_pos h]
  · rw [if_neg (hj 0 (by omega)), if_pos h]
  · rw [if_neg (hj 0 (by omega)), if_neg (hj 1 (by omega)), if_pos h]
  · rw [if_neg (hj 0 (by omega)), if_neg (hj 1 (by omega)), if_neg (hj 2 (by omega)), if_pos h]
  · rw [if_neg (hj 0 (by omega)), if_neg (hj 1 (by omega)), if_neg (hj 2 (by omega)), if_neg (hj 3 (by omega)), if_pos h]
  · rw [if_neg (hj 0 (by omega)), if_neg (hj 1 (by omega)), if_neg (hj 2 (by omega)), if_neg (hj 3 (by omega)), if_neg (hj 4 (by omega)), if_pos h]
  · rw [if_neg (hj 0 (by omega)), if_neg (hj 1 (by omega)), if_neg (hj 2 (by omega)), if_neg (hj 3 (by omega)), if_neg (hj 4 (by omega)), if_neg (hj 5 (by omega)), if_pos h]
  · rw [if_neg (hj 0 (by omega)), if_neg (hj 1 (by omega)), if_neg (hj 2 (by omega)), if_neg (hj 3 (by omega)), if_neg (hj 4 (by omega)), if_neg (hj 5 (by omega)), if_neg (hj 6 (by omega)), if_pos h]
theorem wdI_8 {tx : Nat → Int32} {s e : Nat} (hj : ∀ j, j < 8 → ¬ isWb tx s e j = true) : wdI tx s e = 8 := by
  unfold wdI
  rw [if_neg (hj 0 (by omega)), if_neg (hj 1 (by omega)), if_neg (hj 2 (by omega)), if_neg (hj 3 (by omega)), if_neg (hj 4 (by omega)), if_neg (hj 5 (by omega)), if_neg (hj 6 (by omega)), if_neg (hj 7 (by omega))]
theorem zSb_L : ∀ w, w < 8 → 0 < zSl w ∧ isL (zSb w 0) = true := by decide +kernel
theorem isWb_L {tx : Nat → Int32} {s e w L : Nat} (hw : w < 8) (h : isWb tx s e w = true) (heL : e ≤ L) : kd tx L s = 1 := by
  rw [isWb_def] at h
  obtain ⟨z1, z2⟩ := zSb_L w hw
  have := h.2 0 z1
  unfold kd
  rw [if_pos (by omega), if_pos]
  rw [show tx s = zSb w 0 from this]
  exact z2
theorem l_wH {E : zE} {Q : Int32 → zH → Prop} {m L s e : Nat} {h : zH} {F : Nat → Nat → Int32} (hm : MS h m) (h7 : F 0 7 = nI L) (hL : L ≤ 140) (hs : F 0 11 = nI s) (he : F 0 12 = nI e) (hse : s ≤ e) (heL : e ≤ L) {k' n' : Nat} (htx : ∀ k, k < L → ¬ F 5 k = nI 0) (hk : F 0 10 = nI (kd (F 5) L s)) (hq : Q (nI (wdI (F 5) s e)) (MST h m F)) (d : Nat) : ∀ i, i + d = 8 → (∀ j, j < i → ¬ isWb (F 5) s e j = true) →
    zJ E mX9_wordHere (zQi Q) 2 [some (.inr m), some (.inl (nI i))] [] (MST h m F) k' n' := by
  obtain ⟨mk, ⟨mr1, mr2, mr3, mr4, mr6, mr8⟩, ⟨mk1, mk2, mk3, mk4, mk5, mk6⟩, ⟨mn1, mn2, mn3, mn4, mn5, mn6⟩⟩ := id hm
  induction d with
  | zero =>
    intro i hi hj
    obtain rfl : i = 8 := by omega
    have hle : 8 ≤ 8 := by omega
    rw [wdI_8 hj] at hq
    (refine jX9_wordHere 200 ?_; simp (disch := omega) only [↓wX9_wordHere_0, ↓wX9_wordHere_1, ↓wX9_wordHere_2, ↓wX9_wordHere_3, ↓wX9_wordHere_5, ↓wX9_wordHere_8, ↓wX9_wordHere_9, ↓wX9_wordHere_10, ↓wX9_wordHere_13, ↓wX9_wordHere_16, ↓wX9_wordHere_19, ↓wX9_wordHere_22, ↓wX9_wordHere_23, ↓wX9_wordHere_26, ↓wX9_wordHere_27, ↓wX9_wordHere_30, ↓wX9_wordHere_31, ↓wX9_wordHere_34, ↓wX9_wordHere_36, zQi_def, zQa_def, zQv_def, nI00, nI10, nI11, nI01, true_or, or_true, false_or, or_false, eq_self, true_implies, false_implies, not_true_eq_false, not_false_eq_true, zc9, zc1, zc2, zc3, zc1000, nI_m9, nI_add, pk_mul, ix_nI, vpT, zk_zpi, zn_zpi, zr_zpi, zk_zpa, zn_zpa, zr_zpa, zsz_zpi, zsz_zpa, zi_zpa, zpi_pa, zpa_zpa, true_and, and_true, and_self, zk_MST, zn_MST, zr_MST, zsz_MST, zi_MST, zi_MST0, zpa_MST, zpa_MST0, mk, mr1, mr2, mr3, mr4, mr6, mr8, mk1, mk2, mk3, mk4, mk5, mk6, mn1, mn2, mn3, mn4, mn5, mn6, nI_leI, hle, hk])
    exact ⟨fun _ => hq, fun _ => hq⟩
  | succ d ih =>
    intro i hi hj
    have hle : ¬ 8 ≤ i := by omega
    (refine jX9_wordHere 200 ?_; simp (disch := omega) only [↓wX9_wordHere_0, ↓wX9_wordHere_1, ↓wX9_wordHere_2, ↓wX9_wordHere_3, ↓wX9_wordHere_5, ↓wX9_wordHere_8, ↓wX9_wordHere_9, ↓wX9_wordHere_10, ↓wX9_wordHere_13, ↓wX9_wordHere_16, ↓wX9_wordHere_19, ↓wX9_wordHere_22, ↓wX9_wordHere_23, ↓wX9_wordHere_26, ↓wX9_wordHere_27, ↓wX9_wordHere_30, ↓wX9_wordHere_31, ↓wX9_wordHere_34, ↓wX9_wordHere_36, zQi_def, zQa_def, zQv_def, nI00, nI10, nI11, nI01, true_or, or_true, false_or, or_false, eq_self, true_implies, false_implies, not_true_eq_false, not_false_eq_true, zc9, zc1, zc2, zc3, zc1000, nI_m9, nI_add, pk_mul, ix_nI, vpT, zk_zpi, zn_zpi, zr_zpi, zk_zpa, zn_zpa, zr_zpa, zsz_zpi, zsz_zpa, zi_zpa, zpi_pa, zpa_zpa, true_and, and_true, and_self, zk_MST, zn_MST, zr_MST, zsz_MST, zi_MST, zi_MST0, zpa_MST, zpa_MST0, mk, mr1, mr2, mr3, mr4, mr6, mr8, mk1, mk2, mk3, mk4, mk5, mk6, mn1, mn2, mn3, mn4, mn5, mn6, nI_leI, hle])
    refine d_isWord hm h7 hL hs he hse heL (by omega) htx ?_
    by_cases c : isWb (F 5) s e i = true
    · rw [wdI_at (by omega) c hj] at hq
      rw [isWb_L (by omega) c heL] at hk
      rw [zb_t c]
      try simp (disch := omega) only [↓wX9_wordHere_0, ↓wX9_wordHere_1, ↓wX9_wordHere_2, ↓wX9_wordHere_3, ↓wX9_wordHere_5, ↓wX9_wordHere_8, ↓wX9_wordHere_9, ↓wX9_wordHere_10, ↓wX9_wordHere_13, ↓wX9_wordHere_16, ↓wX9_wordHere_19, ↓wX9_wordHere_22, ↓wX9_wordHere_23, ↓wX9_wordHere_26, ↓wX9_wordHere_27, ↓wX9_wordHere_30, ↓wX9_wordHere_31, ↓wX9_wordHere_34, ↓wX9_wordHere_36, zQi_def, zQa_def, zQv_def, nI00, nI10, nI11, nI01, true_or, or_true, false_or, or_false, eq_self, true_implies, false_implies, not_true_eq_false, not_false_eq_true, zc9, zc1, zc2, zc3, zc1000, nI_m9, nI_add, pk_mul, ix_nI, vpT, zk_zpi, zn_zpi, zr_zpi, zk_zpa, zn_zpa, zr_zpa, zsz_zpi, zsz_zpa, zi_zpa, zpi_pa, zpa_zpa, true_and, and_true, and_self, zk_MST, zn_MST, zr_MST, zsz_MST, zi_MST, zi_MST0, zpa_MST, zpa_MST0, mk, mr1, mr2, mr3, mr4, mr6, mr8, mk1, mk2, mk3, mk4, mk5, mk6, mn1, mn2, mn3, mn4, mn5, mn6, hk]
      exact hq
    · rw [zb_f c]
      try simp (disch := omega) only [↓wX9_wordHere_0, ↓wX9_wordHere_1, ↓wX9_wordHere_2, ↓wX9_wordHere_3, ↓wX9_wordHere_5, ↓wX9_wordHere_8, ↓wX9_wordHere_9, ↓wX9_wordHere_10, ↓wX9_wordHere_13, ↓wX9_wordHere_16, ↓wX9_wordHere_19, ↓wX9_wordHere_22, ↓wX9_wordHere_23, ↓wX9_wordHere_26, ↓wX9_wordHere_27, ↓wX9_wordHere_30, ↓wX9_wordHere_31, ↓wX9_wordHere_34, ↓wX9_wordHere_36, zQi_def, zQa_def, zQv_def, nI00, nI10, nI11, nI01, true_or, or_true, false_or, or_false, eq_self, true_implies, false_implies, not_true_eq_false, not_false_eq_true, zc9, zc1, zc2, zc3, zc1000, nI_m9, nI_add, pk_mul, ix_nI, vpT, zk_zpi, zn_zpi, zr_zpi, zk_zpa, zn_zpa, zr_zpa, zsz_zpi, zsz_zpa, zi_zpa, zpi_pa, zpa_zpa, true_and, and_true, and_self, zk_MST, zn_MST, zr_MST, zsz_MST, zi_MST, zi_MST0, zpa_MST, zpa_MST0, mk, mr1, mr2, mr3, mr4, mr6, mr8, mk1, mk2, mk3, mk4, mk5, mk6, mn1, mn2, mn3, mn4, mn5, mn6, hk]
      refine ih (i + 1) (by omega) (fun j h => ?_)
      by_cases q : j = i
      · rw [q]; exact c
      · exact hj j (by omega)
theorem d_wordHere {E : zE} {Q : Int32 → zH → Prop} {m L s e : Nat} {h : zH} {F : Nat → Nat → Int32} (hm : MS h m) (h7 : F 0 7 = nI L) (hL : L ≤ 140) (hs : F 0 11 = nI s) (he : F 0 12 = nI e) (hse : s ≤ e) (heL : e ≤ L) (htx : ∀ k, k < L → ¬ F 5 k = nI 0) (hk : F 0 10 = nI (kd (F 5) L s)) (hq : Q (nI (wdI (F 5) s e)) (MST h m F)) : zMi E mX9_wordHere [.inr m] (MST h m F) Q := by
  (refine eX9_wordHere 200 ?_; simp (disch := omega) only [↓wX9_wordHere_0, ↓wX9_wordHere_1, ↓wX9_wordHere_2, ↓wX9_wordHere_3, ↓wX9_wordHere_5, ↓wX9_wordHere_8, ↓wX9_wordHere_9, ↓wX9_wordHere_10, ↓wX9_wordHere_13, ↓wX9_wordHere_16, ↓wX9_wordHere_19, ↓wX9_wordHere_22, ↓wX9_wordHere_23, ↓wX9_wordHere_26, ↓wX9_wordHere_27, ↓wX9_wordHere_30, ↓wX9_wordHere_31, ↓wX9_wordHere_34, ↓wX9_wordHere_36, zQi_def, zQa_def, zQv_def, nI00, nI10, nI11, nI01, true_or, or_true, false_or, or_false, eq_self, true_implies, false_implies, not_true_eq_false, not_false_eq_true, zc9, zc1, zc2, zc3, zc1000, nI_m9, nI_add, pk_mul, ix_nI, vpT, zk_zpi, zn_zpi, zr_zpi, zk_zpa, zn_zpa, zr_zpa, zsz_zpi, zsz_zpa, zi_zpa, zpi_pa, zpa_zpa, true_and, and_true, and_self])
  exact l_wH hm h7 hL hs he hse heL htx hk hq 8 0 (by omega) (fun j hj => by omega)
