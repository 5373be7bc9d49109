/-! The law: what the looks show; the keepers who are next. -/
theorem inT {i n : Nat} (h : i < n) (hn : n < 2147483648) : inN (nI i) n = true := by rw [inN_nI (by omega)]; exact h
theorem qKee_i {r : Nat → Int32} {nk k f : Nat} (hk : k < nk) (hnk : nk ≤ 8) (hf : f < 7) : qKee r nk (nI k) (nI f) = r (281 + 7 * k + f) := by
  unfold qKee; rw [if_pos ⟨inT hk (by omega), inT hf (by omega)⟩, ixx_nI (by omega), ixx_nI (by omega)]
theorem qTur_i {r : Nat → Int32} {n k f : Nat} (hk : k < n) (hn : n ≤ 12) (hf : f < 7) : qTur r n (nI k) (nI f) = r (337 + 8 * k + f) := by
  unfold qTur; rw [if_pos ⟨inT hk (by omega), inT hf (by omega)⟩, ixx_nI (by omega), ixx_nI (by omega)]
theorem qSto_i {r : Nat → Int32} {nr nk i s f : Nat} (hi : i < nr) (hnr : nr ≤ 3) (hs : s < 3) (hf : f < 5) : qSto r nr nk (nI i) (nI s) (nI f) = r (221 + 20 * i + 5 + 5 * s + f) := by
  unfold qSto; rw [if_pos ⟨⟨inT hi (by omega), inT hs (by omega)⟩, inT (show f < 6 by omega) (by omega)⟩, ixx_nI (by omega), ixx_nI (by omega), ixx_nI (by omega), if_neg (by rw [nI_eq (by omega) (by omega)]; omega)]
theorem qSto_5 {r : Nat → Int32} {nr nk i s : Nat} (hi : i < nr) (hnr : nr ≤ 3) (hs : s < 3) : qSto r nr nk (nI i) (nI s) (nI 5) = nd (kO r (nI i) nk) s := by
  unfold qSto; rw [if_pos ⟨⟨inT hi (by omega), inT hs (by omega)⟩, inT (show 5 < 6 by omega) (by omega)⟩, if_pos rfl, ixx_nI (by omega)]
theorem qRock_i {r : Nat → Int32} {nr nk n i f : Nat} (hi : i < nr) (hnr : nr ≤ 3) (hf : f < 3) : qRock r nr nk n (nI i) (nI f) = r (221 + 20 * i + f) := by
  unfold qRock; rw [if_pos ⟨inT hi (by omega), inT (show f < 7 by omega) (by omega)⟩, nIn (by omega), if_neg (by omega), if_neg (by omega), if_neg (by omega), if_neg (by omega), ixx_nI (by omega), ixx_nI (by omega)]
theorem qRock_3 {r : Nat → Int32} {nr nk n i : Nat} (hi : i < nr) (hnr : nr ≤ 3) : qRock r nr nk n (nI i) (nI 3) = nI (kO r (nI i) nk) := by
  unfold qRock; rw [if_pos ⟨inT hi (by omega), inT (show 3 < 7 by omega) (by omega)⟩, nIn (by omega), if_pos (by omega)]
theorem qRock_6 {r : Nat → Int32} {nr nk n i : Nat} (hi : i < nr) (hnr : nr ≤ 3) : qRock r nr nk n (nI i) (nI 6) = fO r (nI i) 0 nk := by
  unfold qRock; rw [if_pos ⟨inT hi (by omega), inT (show 6 < 7 by omega) (by omega)⟩, nIn (by omega), if_neg (by omega), if_neg (by omega), if_neg (by omega), if_pos (by omega)]
theorem qLas_i {r : Nat → Int32} {nr nk i s : Nat} (hi : i < nr) (hnr : nr ≤ 3) (hs : s < 3) : qLas r nr nk (nI i) (nI s) = if nd (kO r (nI i) nk) s = 0 then -9 else (r (221 + 20 * i + 5 + 5 * s + 0) - r (221 + 20 * i + 5 + 5 * s + 1)) / nd (kO r (nI i) nk) s := by
  unfold qLas; rw [if_pos ⟨inT hi (by omega), inT hs (by omega)⟩, ixx_nI (by omega), ixx_nI (by omega)]
def OUTp (r : Nat → Int32) (nk n : Nat) (b : Int32) : Prop := b = -9 ∨ ∃ k, k < nk ∧ b = nI k ∧ r (281 + 7 * k + 1) = -9 ∧ ∀ t, t < n → r (337 + 8 * t + 4) ≠ nI k
def INp (r : Nat → Int32) (nk n : Nat) (b : Int32) : Prop := b = -9 ∨ ∃ k, k < nk ∧ b = nI k ∧ r (281 + 7 * k + 1) ≠ -9 ∧ ∀ t, t < n → r (337 + 8 * t + 3) ≠ nI k
theorem hT_0 {r : Nat → Int32} {x : Int32} {p n : Nat} (h : ¬ 0 < hT_ r x p n) : ∀ t, t < n → r (337 + 8 * t + p) ≠ x := by
  intro t ht e
  unfold hT_ at h
  rw [ct_zero] at h
  exact h ⟨t, ht, e⟩
theorem nOu_p {r : Nat → Int32} {nk n : Nat} (d : Nat) : ∀ (k : Nat) (b : Int32), k + d = nk → OUTp r nk n b → OUTp r nk n (nOu r n d k b) := by
  induction d with
  | zero => intro k b _ h; exact h
  | succ d ih =>
    intro k b hk h
    unfold nOu
    refine ih _ _ (by omega) ?_
    split
    · rename_i q
      have hn : OUTp r nk n (nI k) := Or.inr ⟨k, by omega, rfl, q.1, hT_0 q.2⟩
      unfold noB
      split
      · exact hn
      · split
        · exact hn
        · exact h
    · exact h
theorem nIn_p {r : Nat → Int32} {nk n : Nat} (d : Nat) : ∀ (k : Nat) (b : Int32), k + d = nk → INp r nk n b → INp r nk n (nIn_ r n d k b) := by
  induction d with
  | zero => intro k b _ h; exact h
  | succ d ih =>
    intro k b hk h
    unfold nIn_
    refine ih _ _ (by omega) ?_
    split
    · rename_i q
      have hn : INp r nk n (nI k) := Or.inr ⟨k, by omega, rfl, q.1, hT_0 q.2⟩
      unfold niB
      split
      · exact hn
      · split
        · exact hn
        · exact h
    · exact h
theorem m9neg : (-9 : Int32) < 0 := by decide
section Nx
variable {E : zE} {Q : Int32 → zH → Prop} {h : zH} {x : Nat} {r sv tx : Nat → Int32} {s L nr nk n td k' n' : Nat}
theorem lN44 (hS : ST h x r sv tx s L nr nk n td) {a b : Int32} (ha : a < 0 ∨ ∀ t, t < n → r (337 + 8 * t + 4) ≠ a) (hb : b < 0 ∨ ∀ t, t < n → r (337 + 8 * t + 3) ≠ b) (hq : Q (nI 1) h) (d : Nat) : ∀ i, i + d = n → zJ E mL_isNext (zQi Q) 44 [some (.inr x), some (.inl a), some (.inl b), some (.inl (nI i))] [] h k' n' := by
  have k9 := hS.k9
  have hI := hS.RI
  have hn := hI.2.2.2.2.1
  induction d with
  | zero =>
    intro i hi
    have e1 : (nI n ≤ nI i) = True := eq_true (by rw [nI_leI (by omega) (by omega)]; omega)
    (refine jL_isNext 200 ?_; simp (disch := omega) only [↓wL_isNext_0, ↓wL_isNext_1, ↓wL_isNext_4, ↓wL_isNext_5, ↓wL_isNext_6, ↓wL_isNext_9, ↓wL_isNext_10, ↓wL_isNext_11, ↓wL_isNext_14, ↓wL_isNext_15, ↓wL_isNext_16, ↓wL_isNext_17, ↓wL_isNext_20, ↓wL_isNext_22, ↓wL_isNext_25, ↓wL_isNext_26, ↓wL_isNext_29, ↓wL_isNext_30, ↓wL_isNext_31, ↓wL_isNext_32, ↓wL_isNext_35, ↓wL_isNext_37, ↓wL_isNext_40, ↓wL_isNext_41, ↓wL_isNext_42, ↓wL_isNext_43, ↓wL_isNext_44, ↓wL_isNext_45, ↓wL_isNext_46, ↓wL_isNext_47, ↓wL_isNext_50, ↓wL_isNext_53, ↓wL_isNext_54, ↓wL_isNext_57, ↓wL_isNext_58, ↓wL_isNext_59, ↓wL_isNext_60, ↓wL_isNext_63, ↓wL_isNext_64, ↓wL_isNext_67, ↓wL_isNext_68, ↓wL_isNext_71, ↓wL_isNext_72, ↓wL_isNext_73, ↓wL_isNext_74, ↓wL_isNext_77, ↓wL_isNext_78, ↓wL_isNext_81, ↓wL_isNext_82, ↓wL_isNext_83, ↓wL_isNext_86, ↓wL_isNext_89, ↓wL_isNext_90, zQi_def, zQa_def, zQv_def, nI00, nI10, nI11, nI01, true_or, or_true, false_or, or_false, eq_self, true_implies, false_implies, not_true_eq_false, not_false_eq_true, zc9, zc1, zc2, zc3, zc1000, nI_m9, nI_add, pk_mul, ix_nI, vpT, zk_zpi, zn_zpi, zr_zpi, zk_zpa, zn_zpa, zr_zpa, zsz_zpi, zsz_zpa, zi_zpa, zpi_pa, zpa_zpa, true_and, and_true, and_self, k9])
    refine s_count hS ?_
    rw [qCnt3, hI.2.2.1]
    simp only [e1, true_implies, not_true_eq_false, false_implies, and_true]
    exact hq
  | succ d ih =>
    intro i hi
    have e1 : (nI n ≤ nI i) = False := eq_false (by rw [nI_leI (by omega) (by omega)]; omega)
    have ih' := ih (i + 1) (by omega)
    (refine jL_isNext 200 ?_; simp (disch := omega) only [↓wL_isNext_0, ↓wL_isNext_1, ↓wL_isNext_4, ↓wL_isNext_5, ↓wL_isNext_6, ↓wL_isNext_9, ↓wL_isNext_10, ↓wL_isNext_11, ↓wL_isNext_14, ↓wL_isNext_15, ↓wL_isNext_16, ↓wL_isNext_17, ↓wL_isNext_20, ↓wL_isNext_22, ↓wL_isNext_25, ↓wL_isNext_26, ↓wL_isNext_29, ↓wL_isNext_30, ↓wL_isNext_31, ↓wL_isNext_32, ↓wL_isNext_35, ↓wL_isNext_37, ↓wL_isNext_40, ↓wL_isNext_41, ↓wL_isNext_42, ↓wL_isNext_43, ↓wL_isNext_44, ↓wL_isNext_45, ↓wL_isNext_46, ↓wL_isNext_47, ↓wL_isNext_50, ↓wL_isNext_53, ↓wL_isNext_54, ↓wL_isNext_57, ↓wL_isNext_58, ↓wL_isNext_59, ↓wL_isNext_60, ↓wL_isNext_63, ↓wL_isNext_64, ↓wL_isNext_67, ↓wL_isNext_68, ↓wL_isNext_71, ↓wL_isNext_72, ↓wL_isNext_73, ↓wL_isNext_74, ↓wL_isNext_77, ↓wL_isNext_78, ↓wL_isNext_81, ↓wL_isNext_82, ↓wL_isNext_83, ↓wL_isNext_86, ↓wL_isNext_89, ↓wL_isNext_90, zQi_def, zQa_def, zQv_def, nI00, nI10, nI11, nI01, true_or, or_true, false_or, or_false, eq_self, true_implies, false_implies, not_true_eq_false, not_false_eq_true, zc9, zc1, zc2, zc3, zc1000, nI_m9, nI_add, pk_mul, ix_nI, vpT, zk_zpi, zn_zpi, zr_zpi, zk_zpa, zn_zpa, zr_zpa, zsz_zpi, zsz_zpa, zi_zpa, zpi_pa, zpa_zpa, true_and, and_true, and_self, k9])
    refine s_count hS ?_
    rw [qCnt3, hI.2.2.1]
    simp only [e1, false_implies, not_false_eq_true, true_implies, true_and]
    have g4 : qTur r n (nI i) (nI 4) = r (337 + 8 * i + 4) := qTur_i (by omega) (by omega) (by omega)
    have g3 : qTur r n (nI i) (nI 3) = r (337 + 8 * i + 3) := qTur_i (by omega) (by omega) (by omega)
    have hin : (b < 0 → zJ E mL_isNext (zQi Q) 44 [some (.inr x), some (.inl a), some (.inl b), some (.inl (nI (i + 1)))] [] h k' n') ∧ (¬ b < 0 → zk h x = 9 ∧ zMi E mX8_turn [.inr x, .inl (nI i), .inl (nI 3)] h fun q h => (¬ q = b → zJ E mL_isNext (zQi Q) 44 [some (.inr x), some (.inl a), some (.inl b), some (.inl (nI (i + 1)))] [] h k' n') ∧ (q = b → Q (nI 0) h)) := by
      refine ⟨fun _ => ih', fun hb0 => ⟨k9, s_turn hS ⟨fun _ => ih', fun e => ?_⟩⟩⟩
      rw [g3] at e
      exact absurd e (hb.resolve_left hb0 i (by omega))
    refine ⟨fun _ => hin, fun ha0 => ⟨k9, s_turn hS ⟨fun e => ?_, fun _ => hin⟩⟩⟩
    rw [g4] at e
    exact absurd e (ha.resolve_left ha0 i (by omega))
theorem c_isNext (hS : ST h x r sv tx s L nr nk n td) (hq : Q (nI 1) h) : zMi E mL_isNext [.inr x] h Q := by
  have k9 := hS.k9
  have hI := hS.RI
  have hn := hI.2.2.2.2.1
  have ho := nOu_p (r := r) (nk := nk) (n := n) nk 0 (-9) (by omega) (Or.inl rfl)
  have hi := nIn_p (r := r) (nk := nk) (n := n) nk 0 (-9) (by omega) (Or.inl rfl)
  have o1 : nOu r n nk 0 (-9) < 0 ∨ ∀ t, t < n → r (337 + 8 * t + 4) ≠ nOu r n nk 0 (-9) := by
    rcases ho with e | ⟨k, hk, e, -, h2⟩
    · left; rw [e]; exact m9neg
    · right; intro t ht; rw [e]; exact h2 t ht
  have i1 : nIn_ r n nk 0 (-9) < 0 ∨ ∀ t, t < n → r (337 + 8 * t + 3) ≠ nIn_ r n nk 0 (-9) := by
    rcases hi with e | ⟨k, hk, e, -, h2⟩
    · left; rw [e]; exact m9neg
    · right; intro t ht; rw [e]; exact h2 t ht
  have o2 : ¬ nOu r n nk 0 (-9) < 0 → qKee r nk (nOu r n nk 0 (-9)) (nI 1) = -9 := by
    intro hnn
    rcases ho with e | ⟨k, hk, e, h1, -⟩
    · rw [e] at hnn; exact absurd m9neg hnn
    · rw [e, qKee_i hk (by omega) (by omega)]; exact h1
  have i2 : ¬ nIn_ r n nk 0 (-9) < 0 → qKee r nk (nIn_ r n nk 0 (-9)) (nI 1) ≠ -9 := by
    intro hnn
    rcases hi with e | ⟨k, hk, e, h1, -⟩
    · rw [e] at hnn; exact absurd m9neg hnn
    · rw [e, qKee_i hk (by omega) (by omega)]; exact h1
  have fin : zJ E mL_isNext (zQi Q) 44 [some (.inr x), some (.inl (nOu r n nk 0 (-9))), some (.inl (nIn_ r n nk 0 (-9))), some (.inl (nI 0))] [] h 0 0 := lN44 hS o1 i1 hq n 0 (by omega)
  (refine eL_isNext 200 ?_; simp (disch := omega) only [↓wL_isNext_0, ↓wL_isNext_1, ↓wL_isNext_4, ↓wL_isNext_5, ↓wL_isNext_6, ↓wL_isNext_9, ↓wL_isNext_10, ↓wL_isNext_11, ↓wL_isNext_14, ↓wL_isNext_15, ↓wL_isNext_16, ↓wL_isNext_17, ↓wL_isNext_20, ↓wL_isNext_22, ↓wL_isNext_25, ↓wL_isNext_26, ↓wL_isNext_29, ↓wL_isNext_30, ↓wL_isNext_31, ↓wL_isNext_32, ↓wL_isNext_35, ↓wL_isNext_37, ↓wL_isNext_40, ↓wL_isNext_41, ↓wL_isNext_42, ↓wL_isNext_43, ↓wL_isNext_44, ↓wL_isNext_45, ↓wL_isNext_46, ↓wL_isNext_47, ↓wL_isNext_50, ↓wL_isNext_53, ↓wL_isNext_54, ↓wL_isNext_57, ↓wL_isNext_58, ↓wL_isNext_59, ↓wL_isNext_60, ↓wL_isNext_63, ↓wL_isNext_64, ↓wL_isNext_67, ↓wL_isNext_68, ↓wL_isNext_71, ↓wL_isNext_72, ↓wL_isNext_73, ↓wL_isNext_74, ↓wL_isNext_77, ↓wL_isNext_78, ↓wL_isNext_81, ↓wL_isNext_82, ↓wL_isNext_83, ↓wL_isNext_86, ↓wL_isNext_89, ↓wL_isNext_90, zQi_def, zQa_def, zQv_def, nI00, nI10, nI11, nI01, true_or, or_true, false_or, or_false, eq_self, true_implies, false_implies, not_true_eq_false, not_false_eq_true, zc9, zc1, zc2, zc3, zc1000, nI_m9, nI_add, pk_mul, ix_nI, vpT, zk_zpi, zn_zpi, zr_zpi, zk_zpa, zn_zpa, zr_zpa, zsz_zpi, zsz_zpa, zi_zpa, zpi_pa, zpa_zpa, true_and, and_true, and_self, k9])
  refine s_nextOut hS ?_
  refine ⟨k9, s_nextIn hS ?_⟩
  generalize nOu r n nk 0 (-9) = a at *
  generalize nIn_ r n nk 0 (-9) = b at *
  have hin : (b < 0 → zJ E mL_isNext (zQi Q) 44 [some (.inr x), some (.inl a), some (.inl b), some (.inl (nI 0))] [] h 0 0) ∧ (¬ b < 0 → zk h x = 9 ∧ zMi E mX8_keeper [.inr x, .inl b, .inl (nI 1)] h fun q h => (¬ q = -9 → zJ E mL_isNext (zQi Q) 44 [some (.inr x), some (.inl a), some (.inl b), some (.inl (nI 0))] [] h 0 0) ∧ (q = -9 → Q (nI 0) h)) :=
    ⟨fun _ => fin, fun hb0 => ⟨k9, s_keeper hS ⟨fun _ => fin, fun e => absurd e (i2 hb0)⟩⟩⟩
  exact ⟨fun _ => hin, fun ha0 => ⟨k9, s_keeper hS ⟨fun e => absurd (o2 ha0) e, fun _ => hin⟩⟩⟩
end Nx
