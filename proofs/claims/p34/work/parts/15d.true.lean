/-! The law: forecasts come true. -/
theorem ST_of {h : zH} {x : Nat} {r sv tx : Nat → Int32} {s L nr nk n td : Nat} (hC : CI' h x r sv tx s L) (hb : bd nr nk n td) (e1 : r 1 = nI nr) (e2 : r 2 = nI nk) (e3 : r 3 = nI n) (e0 : r 0 = nI td) : ST h x r sv tx s L nr nk n td := by
  obtain ⟨o, hH⟩ := hC.2.1
  obtain ⟨a, b, c, d, hW⟩ := hH.2.2.2.2.1.1
  obtain ⟨-, p, -, hR⟩ := id hW
  obtain ⟨rfl, rfl, rfl, rfl⟩ := RI_eq hR.1 hb e1 e2 e3 e0
  exact ⟨hC, hW⟩
theorem ST.again {h h' : zH} {x : Nat} {r sv tx sv' tx' : Nat → Int32} {s L s' L' nr nk n td : Nat} (hS : ST h x r sv tx s L nr nk n td) (hC : CI' h' x r sv' tx' s' L') : ST h' x r sv' tx' s' L' nr nk n td := by
  have hI := hS.RI
  exact ST_of hC (RI_bd hI) hI.1 hI.2.1 hI.2.2.1 hI.2.2.2.1
def w0 : Nat → Int32 := fun _ => 0
section Lt
variable {E : zE} {Q : Int32 → zH → Prop} {h : zH} {x : Nat} {r sv tx : Nat → Int32} {s L nr nk n td : Nat} {a b c : Int32}
theorem s_later (hS : ST h x r sv tx s L nr nk n td) (hq : ∀ h', OUT h h' x (x + 348) → ST h' x r sv tx s L nr nk n td → Q (qLat r w0 nr nk n td a b c) h') : zMi E mX8_later [.inr x, .inl a, .inl b, .inl c] h Q :=
  pb_later (F := FF r sv tx) hS.1 hS.2 (fun h' hO hC => hq h' hO (hS.again hC))
theorem s_doneOn (hS : ST h x r sv tx s L nr nk n td) (hq : ∀ h', OUT h h' x (x + 348) → ST h' x r sv tx s L nr nk n td → Q (qDon r w0 nr nk n td a) h') : zMi E mX8_doneOn [.inr x, .inl a] h Q :=
  pb_doneOn (F := FF r sv tx) hS.1 hS.2 (fun h' hO hC => hq h' hO (hS.again hC))
end Lt
def onD (r : Nat → Int32) (nr nk n td k : Nat) : Int32 := dO nr nk k (199 - td) (wF r w0 n)
theorem qDon_i {r : Nat → Int32} {nr nk n td k : Nat} (hk : k < n) (hn : n ≤ 12) : qDon r w0 nr nk n td (nI k) = onD r nr nk n td k := by
  unfold qDon onD
  rw [if_pos (inT hk (by omega)), ixx_nI (by omega)]
theorem on_facts {r : Nat → Int32} {nr nk n td : Nat} (hI : RI r nr nk n td) : (∀ k, k < n → onD r nr nk n td k < 0 ∨ ¬ onD r nr nk n td k < r (337 + 8 * k + 2)) ∧ ∀ D, td + D ≤ 199 → (pN nr nk D r (nI 0)).1 4 = r 4 + nI (ct (fun b => ¬ onD r nr nk n td b < 0 ∧ onD r nr nk n td b < nI (td + D)) n) := by
  have hn := hI.2.2.2.2.1
  have hTW := hI.2.2.2.2.2.1
  have hw : ∀ k f, k < 12 → f < 7 → wF r w0 n (337 + 8 * k + f) = r (337 + 8 * k + f) := fun k f hk hf => wF_at (by omega) (fun u _ => by omega)
  have hT : TG (wF r w0 n) n (fun u => u) (fun u => ixx (r (337 + 8 * u + 2))) := by
    refine ⟨fun u hu => ⟨(show u < 12 by omega), wF_tag hu, ?_⟩, fun u v _ _ e => e⟩
    obtain ⟨dd, h1, h2⟩ := (hTW u hu).2.1
    exact ⟨dd, h1, by rw [hw u 2 (by omega) (by omega)]; exact h2, (show ixx (r (337 + 8 * u + 2)) ≤ dd by rw [h2, ixx_nI (by omega)]; exact Nat.le_refl _)⟩
  by_cases h199 : td ≤ 199
  · obtain ⟨j1, j2⟩ := dO_tags (nr := nr) (nk := nk) (199 - td) (wF r w0 n) n td (fun u => u) (by omega) (RI_wF hI) hT
    refine ⟨fun k hk => ?_, fun D hD => ?_⟩
    · rcases j1 k (by omega) with e | ⟨y, y1, y2, y3, y4, -⟩
      · exact Or.inl (by unfold onD; rw [e]; exact m9neg)
      · refine Or.inr ?_
        obtain ⟨dd, h1, h2⟩ := (hTW k hk).2.1
        unfold onD
        have y4 : ixx (r (337 + 8 * k + 2)) ≤ y := y4
        rw [h2, ixx_nI (by omega)] at y4
        rw [y3, h2, Int32.not_lt, nI_leI (by omega) (by omega)]
        exact y4
    · have h1 := j2 D (nI 0) (by omega)
      have h2 := NT_pN D (wF r w0 n) r n td (nI 0) (nI 0) (RI_wF hI) hD NT_wF 4 (nt_lo (by omega))
      rw [← h2, h1, wF_at (by omega) (fun u _ => by omega)]
      congr 2
      refine ct_more 12 (by omega) (fun k h3 h4 q => ?_)
      rcases j1 k h4 with e | ⟨y, -, -, -, -, u, hu, eu⟩
      · exact q.1 (by show dO nr nk k (199 - td) (wF r w0 n) < 0; rw [e]; exact m9neg)
      · omega
  · omega
section Ct
variable {E : zE} {Q : Int32 → zH → Prop} {h0 : zH} {x a0 D : Nat} {r sv tx : Nat → Int32} {s L nr nk n td k' n' : Nat}
/-- nothing else has changed since h0 -/
def KEP (h0 h : zH) (x a0 : Nat) : Prop := a0 < zsz h ∧ ∀ c, x + 348 ≤ c → c < a0 → SM h0 h c
theorem KEP_out {h0 h h' : zH} {x a0 : Nat} (hK : KEP h0 h x a0) (hO : OUT h h' x (x + 348)) : KEP h0 h' x a0 := ⟨Nat.lt_of_lt_of_le hK.1 hO.1, fun c h1 h2 => SM_tr (hK.2 c h1 h2) (hO.2 c (by have := hK.1; omega) (by omega))⟩
/-- the array told: what is told so far -/
def TLD (h : zH) (a0 : Nat) (g : Nat → Int32) (k : Nat) : Prop := zk h a0 = 20 ∧ zn h a0 = 56 ∧ ∀ j, j < k → zi h a0 j = g j
theorem TLD_out {h h' : zH} {x a0 : Nat} {g : Nat → Int32} {k : Nat} (hT : TLD h a0 g k) (ha : x + 348 ≤ a0) (hz : a0 < zsz h) (hO : OUT h h' x (x + 348)) : TLD h' a0 g k := by
  obtain ⟨e1, e2, e3, -⟩ := hO.2 a0 hz (by omega)
  exact ⟨e1.trans hT.1, e2.trans hT.2.1, fun j hj => by rw [e3]; exact hT.2.2 j hj⟩
theorem lC173 {h : zH} (hS : ST h x r sv tx s L nr nk n td) {g : Nat → Int32} (hT : TLD h a0 g (7 * nk)) (hg : ∀ k, k < 7 * nk → g k = r (281 + k)) (hq : Q (nI 1) h) (l1 l4 l5 l6 : Option zV) (d : Nat) : ∀ i, i + d = 7 * nk → zJ E mL_comesTrue (zQi Q) 173 [some (.inr x), l1, some (.inr a0), some (.inl (nI nk)), l4, l5, l6, some (.inl (nI i))] [] h k' n' := by
  have k9 := hS.k9
  have hI := hS.RI
  have hn := hI.2.2.2.2.1
  obtain ⟨t1, t2, t3⟩ := hT
  induction d with
  | zero =>
    intro i hi
    have e1 : (nI (7 * nk) ≤ nI i) = True := eq_true (by rw [nI_leI (by omega) (by omega)]; omega)
    (refine jL_comesTrue 200 ?_; simp (disch := omega) only [↓wL_comesTrue_0, ↓wL_comesTrue_2, ↓wL_comesTrue_4, ↓wL_comesTrue_5, ↓wL_comesTrue_6, ↓wL_comesTrue_7, ↓wL_comesTrue_10, ↓wL_comesTrue_11, ↓wL_comesTrue_12, ↓wL_comesTrue_13, ↓wL_comesTrue_16, ↓wL_comesTrue_18, ↓wL_comesTrue_19, ↓wL_comesTrue_21, ↓wL_comesTrue_22, ↓wL_comesTrue_24, ↓wL_comesTrue_26, ↓wL_comesTrue_28, ↓wL_comesTrue_29, ↓wL_comesTrue_30, ↓wL_comesTrue_33, ↓wL_comesTrue_34, ↓wL_comesTrue_36, ↓wL_comesTrue_37, ↓wL_comesTrue_39, ↓wL_comesTrue_41, ↓wL_comesTrue_42, ↓wL_comesTrue_43, ↓wL_comesTrue_45, ↓wL_comesTrue_47, ↓wL_comesTrue_48, ↓wL_comesTrue_51, ↓wL_comesTrue_52, ↓wL_comesTrue_55, ↓wL_comesTrue_58, ↓wL_comesTrue_59, ↓wL_comesTrue_61, ↓wL_comesTrue_63, ↓wL_comesTrue_64, ↓wL_comesTrue_65, ↓wL_comesTrue_68, ↓wL_comesTrue_71, ↓wL_comesTrue_72, ↓wL_comesTrue_74, ↓wL_comesTrue_77, ↓wL_comesTrue_79, ↓wL_comesTrue_81, ↓wL_comesTrue_84, ↓wL_comesTrue_86, ↓wL_comesTrue_87, ↓wL_comesTrue_89, ↓wL_comesTrue_90, ↓wL_comesTrue_93, ↓wL_comesTrue_96, ↓wL_comesTrue_97, ↓wL_comesTrue_98, ↓wL_comesTrue_100, ↓wL_comesTrue_102, ↓wL_comesTrue_105, ↓wL_comesTrue_107, ↓wL_comesTrue_109, ↓wL_comesTrue_110, ↓wL_comesTrue_111, ↓wL_comesTrue_114, ↓wL_comesTrue_115, ↓wL_comesTrue_118, ↓wL_comesTrue_119, ↓wL_comesTrue_120, ↓wL_comesTrue_122, ↓wL_comesTrue_125, ↓wL_comesTrue_128, ↓wL_comesTrue_129, ↓wL_comesTrue_130, ↓wL_comesTrue_133, ↓wL_comesTrue_135, ↓wL_comesTrue_136, ↓wL_comesTrue_137, ↓wL_comesTrue_140, ↓wL_comesTrue_143, ↓wL_comesTrue_144, ↓wL_comesTrue_145, ↓wL_comesTrue_148, ↓wL_comesTrue_150, ↓wL_comesTrue_152, ↓wL_comesTrue_153, ↓wL_comesTrue_156, ↓wL_comesTrue_157, ↓wL_comesTrue_158, ↓wL_comesTrue_161, ↓wL_comesTrue_163, ↓wL_comesTrue_164, ↓wL_comesTrue_165, ↓wL_comesTrue_168, ↓wL_comesTrue_169, ↓wL_comesTrue_170, ↓wL_comesTrue_171, ↓wL_comesTrue_173, ↓wL_comesTrue_175, ↓wL_comesTrue_177, ↓wL_comesTrue_178, ↓wL_comesTrue_179, ↓wL_comesTrue_182, ↓wL_comesTrue_183, ↓wL_comesTrue_185, ↓wL_comesTrue_187, ↓wL_comesTrue_188, ↓wL_comesTrue_190, ↓wL_comesTrue_192, ↓wL_comesTrue_193, ↓wL_comesTrue_196, ↓wL_comesTrue_197, ↓wL_comesTrue_199, ↓wL_comesTrue_200, ↓wL_comesTrue_203, ↓wL_comesTrue_204, ↓wL_comesTrue_205, ↓wL_comesTrue_208, ↓wL_comesTrue_211, ↓wL_comesTrue_212, zQi_def, zQa_def, zQv_def, nI00, nI10, nI11, nI01, true_or, or_true, false_or, or_false, eq_self, true_implies, false_implies, not_true_eq_false, not_false_eq_true, zc9, zc1, zc2, zc3, zc1000, nI_m9, nI_add, pk_mul, ix_nI, vpT, zk_zpi, zn_zpi, zr_zpi, zk_zpa, zn_zpa, zr_zpa, zsz_zpi, zsz_zpa, zi_zpa, zpi_pa, zpa_zpa, true_and, and_true, and_self, e1])
    exact hq
  | succ d ih =>
    intro i hi
    have e1 : (nI (7 * nk) ≤ nI i) = False := eq_false (by rw [nI_leI (by omega) (by omega)]; omega)
    have e2 : nI i / nI 7 = nI (i / 7) := pk_div (by omega) (by omega) (by omega)
    have e3 : nI i - nI i / nI 7 * nI 7 = nI (i % 7) := pk_rem (by omega) (by omega) (by omega)
    have e4 : (nI 7 = 0) = False := eq_false (by decide)
    have hin : vp_in (nI i) (zn h a0) := by rw [t2]; exact of_eq_true (vpT (by omega) (by omega))
    have ih' := ih (i + 1) (by omega)
    (refine jL_comesTrue 200 ?_; simp (disch := omega) only [↓wL_comesTrue_0, ↓wL_comesTrue_2, ↓wL_comesTrue_4, ↓wL_comesTrue_5, ↓wL_comesTrue_6, ↓wL_comesTrue_7, ↓wL_comesTrue_10, ↓wL_comesTrue_11, ↓wL_comesTrue_12, ↓wL_comesTrue_13, ↓wL_comesTrue_16, ↓wL_comesTrue_18, ↓wL_comesTrue_19, ↓wL_comesTrue_21, ↓wL_comesTrue_22, ↓wL_comesTrue_24, ↓wL_comesTrue_26, ↓wL_comesTrue_28, ↓wL_comesTrue_29, ↓wL_comesTrue_30, ↓wL_comesTrue_33, ↓wL_comesTrue_34, ↓wL_comesTrue_36, ↓wL_comesTrue_37, ↓wL_comesTrue_39, ↓wL_comesTrue_41, ↓wL_comesTrue_42, ↓wL_comesTrue_43, ↓wL_comesTrue_45, ↓wL_comesTrue_47, ↓wL_comesTrue_48, ↓wL_comesTrue_51, ↓wL_comesTrue_52, ↓wL_comesTrue_55, ↓wL_comesTrue_58, ↓wL_comesTrue_59, ↓wL_comesTrue_61, ↓wL_comesTrue_63, ↓wL_comesTrue_64, ↓wL_comesTrue_65, ↓wL_comesTrue_68, ↓wL_comesTrue_71, ↓wL_comesTrue_72, ↓wL_comesTrue_74, ↓wL_comesTrue_77, ↓wL_comesTrue_79, ↓wL_comesTrue_81, ↓wL_comesTrue_84, ↓wL_comesTrue_86, ↓wL_comesTrue_87, ↓wL_comesTrue_89, ↓wL_comesTrue_90, ↓wL_comesTrue_93, ↓wL_comesTrue_96, ↓wL_comesTrue_97, ↓wL_comesTrue_98, ↓wL_comesTrue_100, ↓wL_comesTrue_102, ↓wL_comesTrue_105, ↓wL_comesTrue_107, ↓wL_comesTrue_109, ↓wL_comesTrue_110, ↓wL_comesTrue_111, ↓wL_comesTrue_114, ↓wL_comesTrue_115, ↓wL_comesTrue_118, ↓wL_comesTrue_119, ↓wL_comesTrue_120, ↓wL_comesTrue_122, ↓wL_comesTrue_125, ↓wL_comesTrue_128, ↓wL_comesTrue_129, ↓wL_comesTrue_130, ↓wL_comesTrue_133, ↓wL_comesTrue_135, ↓wL_comesTrue_136, ↓wL_comesTrue_137, ↓wL_comesTrue_140, ↓wL_comesTrue_143, ↓wL_comesTrue_144, ↓wL_comesTrue_145, ↓wL_comesTrue_148, ↓wL_comesTrue_150, ↓wL_comesTrue_152, ↓wL_comesTrue_153, ↓wL_comesTrue_156, ↓wL_comesTrue_157, ↓wL_comesTrue_158, ↓wL_comesTrue_161, ↓wL_comesTrue_163, ↓wL_comesTrue_164, ↓wL_comesTrue_165, ↓wL_comesTrue_168, ↓wL_comesTrue_169, ↓wL_comesTrue_170, ↓wL_comesTrue_171, ↓wL_comesTrue_173, ↓wL_comesTrue_175, ↓wL_comesTrue_177, ↓wL_comesTrue_178, ↓wL_comesTrue_179, ↓wL_comesTrue_182, ↓wL_comesTrue_183, ↓wL_comesTrue_185, ↓wL_comesTrue_187, ↓wL_comesTrue_188, ↓wL_comesTrue_190, ↓wL_comesTrue_192, ↓wL_comesTrue_193, ↓wL_comesTrue_196, ↓wL_comesTrue_197, ↓wL_comesTrue_199, ↓wL_comesTrue_200, ↓wL_comesTrue_203, ↓wL_comesTrue_204, ↓wL_comesTrue_205, ↓wL_comesTrue_208, ↓wL_comesTrue_211, ↓wL_comesTrue_212, zQi_def, zQa_def, zQv_def, nI00, nI10, nI11, nI01, true_or, or_true, false_or, or_false, eq_self, true_implies, false_implies, not_true_eq_false, not_false_eq_true, zc9, zc1, zc2, zc3, zc1000, nI_m9, nI_add, pk_mul, ix_nI, vpT, zk_zpi, zn_zpi, zr_zpi, zk_zpa, zn_zpa, zr_zpa, zsz_zpi, zsz_zpa, zi_zpa, zpi_pa, zpa_zpa, true_and, and_true, and_self, e1, ↓e3, ↓e2, e4, k9])
    refine s_keeper hS ?_
    have ev : qKee r nk (nI (i / 7)) (nI (i % 7)) = zi h a0 i := by
      rw [qKee_i (by omega) (by omega) (by omega), t3 i (by omega), hg i (by omega)]
      exact congrArg r (by omega)
    rw [ev]
    exact ⟨t1, hin, fun _ => ih', fun q => absurd rfl q⟩
theorem oPass_i {f : Nat → Int32} {nr nk td D : Nat} (h1 : 1 ≤ D) (h2 : D ≤ 60) (h3 : td + D ≤ 199) : oPass f nr nk td (nI D) = ((pN nr nk D f (nI 0)).2, some (pN nr nk D f (nI 0)).1) := by
  have e : psC td (nI D) = nI 0 := by
    unfold psC
    rw [if_pos ⟨(nI_leI (by omega) (by omega)).mpr h1, (nI_leI (by omega) (by omega)).mpr h2⟩, if_neg (by rw [nI_add, ltle, nI_leI (by omega) (by omega)]; omega)]
  unfold oPass
  rw [e, if_pos (by decide), ixx_nI (by omega)]
theorem lC61 (hnr : 0 < nr) (hD1 : 1 ≤ D) (hD : D ≤ 30) (htd : td + D ≤ 199) (ha : x + 348 ≤ a0) {came : Nat → Int32} (hV : IV r nr nk n td came) (hNS : NSs r sv s) (hs5 : s ≤ 5)
    (hq : ∀ h' r' n', KEP h0 h' x a0 → ST h' x r' (svF (FF r sv tx) s) tx (svN s) L nr nk n' (td + D) → IV r' nr nk n' (td + D) came → NSs r' (svF (FF r sv tx) s) (svN s) → Q (nI 1) h') (d : Nat) : ∀ (i : Nat) (h : zH) (l7 : Option zV), i + d = n → ST h x r sv tx s L nr nk n td → TLD h a0 (fun k => (pN nr nk D r (nI 0)).1 (281 + k)) (7 * nk) → KEP h0 h x a0 →
    zJ E mL_comesTrue (zQi Q) 61 [some (.inr x), some (.inl (nI D)), some (.inr a0), some (.inl (nI nk)), some (.inl (nI td)), some (.inl (nI (ct (fun b => ¬ onD r nr nk n td b < 0 ∧ onD r nr nk n td b < nI (td + D)) i))), some (.inl (nI i)), l7] [] h k' n' := by
  induction d with
  | zero =>
    intro i h l7 hi hS hT hK
    have k9 := hS.k9
    have hI := hS.RI
    have hn := hI.2.2.2.2.1
    have e1 : (nI n ≤ nI i) = True := eq_true (by rw [nI_leI (by omega) (by omega)]; omega)
    (refine jL_comesTrue 200 ?_; simp (disch := omega) only [↓wL_comesTrue_0, ↓wL_comesTrue_2, ↓wL_comesTrue_4, ↓wL_comesTrue_5, ↓wL_comesTrue_6, ↓wL_comesTrue_7, ↓wL_comesTrue_10, ↓wL_comesTrue_11, ↓wL_comesTrue_12, ↓wL_comesTrue_13, ↓wL_comesTrue_16, ↓wL_comesTrue_18, ↓wL_comesTrue_19, ↓wL_comesTrue_21, ↓wL_comesTrue_22, ↓wL_comesTrue_24, ↓wL_comesTrue_26, ↓wL_comesTrue_28, ↓wL_comesTrue_29, ↓wL_comesTrue_30, ↓wL_comesTrue_33, ↓wL_comesTrue_34, ↓wL_comesTrue_36, ↓wL_comesTrue_37, ↓wL_comesTrue_39, ↓wL_comesTrue_41, ↓wL_comesTrue_42, ↓wL_comesTrue_43, ↓wL_comesTrue_45, ↓wL_comesTrue_47, ↓wL_comesTrue_48, ↓wL_comesTrue_51, ↓wL_comesTrue_52, ↓wL_comesTrue_55, ↓wL_comesTrue_58, ↓wL_comesTrue_59, ↓wL_comesTrue_61, ↓wL_comesTrue_63, ↓wL_comesTrue_64, ↓wL_comesTrue_65, ↓wL_comesTrue_68, ↓wL_comesTrue_71, ↓wL_comesTrue_72, ↓wL_comesTrue_74, ↓wL_comesTrue_77, ↓wL_comesTrue_79, ↓wL_comesTrue_81, ↓wL_comesTrue_84, ↓wL_comesTrue_86, ↓wL_comesTrue_87, ↓wL_comesTrue_89, ↓wL_comesTrue_90, ↓wL_comesTrue_93, ↓wL_comesTrue_96, ↓wL_comesTrue_97, ↓wL_comesTrue_98, ↓wL_comesTrue_100, ↓wL_comesTrue_102, ↓wL_comesTrue_105, ↓wL_comesTrue_107, ↓wL_comesTrue_109, ↓wL_comesTrue_110, ↓wL_comesTrue_111, ↓wL_comesTrue_114, ↓wL_comesTrue_115, ↓wL_comesTrue_118, ↓wL_comesTrue_119, ↓wL_comesTrue_120, ↓wL_comesTrue_122, ↓wL_comesTrue_125, ↓wL_comesTrue_128, ↓wL_comesTrue_129, ↓wL_comesTrue_130, ↓wL_comesTrue_133, ↓wL_comesTrue_135, ↓wL_comesTrue_136, ↓wL_comesTrue_137, ↓wL_comesTrue_140, ↓wL_comesTrue_143, ↓wL_comesTrue_144, ↓wL_comesTrue_145, ↓wL_comesTrue_148, ↓wL_comesTrue_150, ↓wL_comesTrue_152, ↓wL_comesTrue_153, ↓wL_comesTrue_156, ↓wL_comesTrue_157, ↓wL_comesTrue_158, ↓wL_comesTrue_161, ↓wL_comesTrue_163, ↓wL_comesTrue_164, ↓wL_comesTrue_165, ↓wL_comesTrue_168, ↓wL_comesTrue_169, ↓wL_comesTrue_170, ↓wL_comesTrue_171, ↓wL_comesTrue_173, ↓wL_comesTrue_175, ↓wL_comesTrue_177, ↓wL_comesTrue_178, ↓wL_comesTrue_179, ↓wL_comesTrue_182, ↓wL_comesTrue_183, ↓wL_comesTrue_185, ↓wL_comesTrue_187, ↓wL_comesTrue_188, ↓wL_comesTrue_190, ↓wL_comesTrue_192, ↓wL_comesTrue_193, ↓wL_comesTrue_196, ↓wL_comesTrue_197, ↓wL_comesTrue_199, ↓wL_comesTrue_200, ↓wL_comesTrue_203, ↓wL_comesTrue_204, ↓wL_comesTrue_205, ↓wL_comesTrue_208, ↓wL_comesTrue_211, ↓wL_comesTrue_212, zQi_def, zQa_def, zQv_def, nI00, nI10, nI11, nI01, true_or, or_true, false_or, or_false, eq_self, true_implies, false_implies, not_true_eq_false, not_false_eq_true, zc9, zc1, zc2, zc3, zc1000, nI_m9, nI_add, pk_mul, ix_nI, vpT, zk_zpi, zn_zpi, zr_zpi, zk_zpa, zn_zpa, zr_zpa, zsz_zpi, zsz_zpa, zi_zpa, zpi_pa, zpa_zpa, true_and, and_true, and_self, k9])
    refine s_count hS ?_
    rw [qCnt3, hI.2.2.1]
    simp only [e1, true_implies, not_true_eq_false, false_implies, and_true]
    have ei : i = n := by omega
    subst ei
    refine ⟨k9, s_count hS ?_⟩
    rw [qCnt5]
    refine ⟨k9, pb_pass (F := FF r sv tx) hS.1 hS.2 ?_⟩
    rw [show oPass (FF r sv tx 1) nr nk td (nI D) = ((pN nr nk D r (nI 0)).2, some (pN nr nk D r (nI 0)).1) from oPass_i (by omega) (by omega) htd]
    obtain ⟨n2, b1, b2, b3, -⟩ := pN_iv D r i td (nI 0) hI hV htd
    obtain ⟨c, hc, ec⟩ := pN_mi D r i td 0 hI htd
    have h4 := (on_facts hI).2 D htd
    show ∀ h', OUT h h' x (x + 348) → CI' h' x (pN nr nk D r (nI 0)).1 (svF (FF r sv tx) s) tx (svN s) L → _
    intro h' hO hC
    have hS' : ST h' x (pN nr nk D r (nI 0)).1 (svF (FF r sv tx) s) tx (svN s) L nr nk n2 (td + D) := ST_of hC (RI_bd b2) b2.1 b2.2.1 b2.2.2.1 b2.2.2.2.1
    have k9' := hS'.k9
    have hN' : NSs (pN nr nk D r (nI 0)).1 (svF (FF r sv tx) s) (svN s) := NS_act hNS hs5 (fun k hk => pN_tl hk D r i td (nI 0) hI htd)
    refine ⟨fun q => ?_, fun _ => ⟨k9', s_count hS' ?_⟩⟩
    · exfalso
      have q : (pN nr nk D r (nI 0)).2 < 0 := q
      rw [ec, nI_nneg (by omega)] at q
      exact q
    · rw [qCnt5, h4]
      refine ⟨fun q => absurd rfl q, fun _ => ⟨k9', s_count hS' ?_⟩⟩
      rw [qCnt0, b2.2.2.2.1]
      refine ⟨fun _ => ?_, fun q => absurd rfl q⟩
      exact lC173 hS' (TLD_out hT ha hK.1 hO) (fun k hk => rfl) (hq h' _ n2 (KEP_out hK hO) hS' b3 hN') _ _ _ _ (7 * nk) 0 (by omega)
  | succ d ih =>
    intro i h l7 hi hS hT hK
    have k9 := hS.k9
    have hI := hS.RI
    have hn := hI.2.2.2.2.1
    have e1 : (nI n ≤ nI i) = False := eq_false (by rw [nI_leI (by omega) (by omega)]; omega)
    have ih' := ih (i + 1)
    (refine jL_comesTrue 200 ?_; simp (disch := omega) only [↓wL_comesTrue_0, ↓wL_comesTrue_2, ↓wL_comesTrue_4, ↓wL_comesTrue_5, ↓wL_comesTrue_6, ↓wL_comesTrue_7, ↓wL_comesTrue_10, ↓wL_comesTrue_11, ↓wL_comesTrue_12, ↓wL_comesTrue_13, ↓wL_comesTrue_16, ↓wL_comesTrue_18, ↓wL_comesTrue_19, ↓wL_comesTrue_21, ↓wL_comesTrue_22, ↓wL_comesTrue_24, ↓wL_comesTrue_26, ↓wL_comesTrue_28, ↓wL_comesTrue_29, ↓wL_comesTrue_30, ↓wL_comesTrue_33, ↓wL_comesTrue_34, ↓wL_comesTrue_36, ↓wL_comesTrue_37, ↓wL_comesTrue_39, ↓wL_comesTrue_41, ↓wL_comesTrue_42, ↓wL_comesTrue_43, ↓wL_comesTrue_45, ↓wL_comesTrue_47, ↓wL_comesTrue_48, ↓wL_comesTrue_51, ↓wL_comesTrue_52, ↓wL_comesTrue_55, ↓wL_comesTrue_58, ↓wL_comesTrue_59, ↓wL_comesTrue_61, ↓wL_comesTrue_63, ↓wL_comesTrue_64, ↓wL_comesTrue_65, ↓wL_comesTrue_68, ↓wL_comesTrue_71, ↓wL_comesTrue_72, ↓wL_comesTrue_74, ↓wL_comesTrue_77, ↓wL_comesTrue_79, ↓wL_comesTrue_81, ↓wL_comesTrue_84, ↓wL_comesTrue_86, ↓wL_comesTrue_87, ↓wL_comesTrue_89, ↓wL_comesTrue_90, ↓wL_comesTrue_93, ↓wL_comesTrue_96, ↓wL_comesTrue_97, ↓wL_comesTrue_98, ↓wL_comesTrue_100, ↓wL_comesTrue_102, ↓wL_comesTrue_105, ↓wL_comesTrue_107, ↓wL_comesTrue_109, ↓wL_comesTrue_110, ↓wL_comesTrue_111, ↓wL_comesTrue_114, ↓wL_comesTrue_115, ↓wL_comesTrue_118, ↓wL_comesTrue_119, ↓wL_comesTrue_120, ↓wL_comesTrue_122, ↓wL_comesTrue_125, ↓wL_comesTrue_128, ↓wL_comesTrue_129, ↓wL_comesTrue_130, ↓wL_comesTrue_133, ↓wL_comesTrue_135, ↓wL_comesTrue_136, ↓wL_comesTrue_137, ↓wL_comesTrue_140, ↓wL_comesTrue_143, ↓wL_comesTrue_144, ↓wL_comesTrue_145, ↓wL_comesTrue_148, ↓wL_comesTrue_150, ↓wL_comesTrue_152, ↓wL_comesTrue_153, ↓wL_comesTrue_156, ↓wL_comesTrue_157, ↓wL_comesTrue_158, ↓wL_comesTrue_161, ↓wL_comesTrue_163, ↓wL_comesTrue_164, ↓wL_comesTrue_165, ↓wL_comesTrue_168, ↓wL_comesTrue_169, ↓wL_comesTrue_170, ↓wL_comesTrue_171, ↓wL_comesTrue_173, ↓wL_comesTrue_175, ↓wL_comesTrue_177, ↓wL_comesTrue_178, ↓wL_comesTrue_179, ↓wL_comesTrue_182, ↓wL_comesTrue_183, ↓wL_comesTrue_185, ↓wL_comesTrue_187, ↓wL_comesTrue_188, ↓wL_comesTrue_190, ↓wL_comesTrue_192, ↓wL_comesTrue_193, ↓wL_comesTrue_196, ↓wL_comesTrue_197, ↓wL_comesTrue_199, ↓wL_comesTrue_200, ↓wL_comesTrue_203, ↓wL_comesTrue_204, ↓wL_comesTrue_205, ↓wL_comesTrue_208, ↓wL_comesTrue_211, ↓wL_comesTrue_212, zQi_def, zQa_def, zQv_def, nI00, nI10, nI11, nI01, true_or, or_true, false_or, or_false, eq_self, true_implies, false_implies, not_true_eq_false, not_false_eq_true, zc9, zc1, zc2, zc3, zc1000, nI_m9, nI_add, pk_mul, ix_nI, vpT, zk_zpi, zn_zpi, zr_zpi, zk_zpa, zn_zpa, zr_zpa, zsz_zpi, zsz_zpa, zi_zpa, zpi_pa, zpa_zpa, true_and, and_true, and_self, k9])
    refine s_count hS ?_
    rw [qCnt3, hI.2.2.1]
    simp only [e1, false_implies, not_false_eq_true, true_implies, true_and]
    refine ⟨k9, s_doneOn hS fun h' hO hS' => ?_⟩
    have k9' := hS'.k9
    rw [qDon_i (by omega) (by omega)]
    have hJ := ih' h' (some (.inl (onD r nr nk n td i))) (by omega) hS' (TLD_out hT ha hK.1 hO) (KEP_out hK hO)
    have hs0 : ct (fun b => ¬ onD r nr nk n td b < 0 ∧ onD r nr nk n td b < nI (td + D)) (i + 1) = ct (fun b => ¬ onD r nr nk n td b < 0 ∧ onD r nr nk n td b < nI (td + D)) i + if ¬ onD r nr nk n td i < 0 ∧ onD r nr nk n td i < nI (td + D) then 1 else 0 := rfl
    rw [hs0] at hJ
    have hf := (on_facts hI).1 i (by omega)
    have g2 : qTur r n (nI i) (nI 2) = r (337 + 8 * i + 2) := qTur_i (by omega) (by omega) (by omega)
    generalize ct (fun b => ¬ onD r nr nk n td b < 0 ∧ onD r nr nk n td b < nI (td + D)) i = C at *
    generalize onD r nr nk n td i = on at *
    have hB : (on < 0 → zJ E mL_comesTrue (zQi Q) 61 [some (.inr x), some (.inl (nI D)), some (.inr a0), some (.inl (nI nk)), some (.inl (nI td)), some (.inl (nI (C + 0))), some (.inl (nI (i + 1))), some (.inl on)] [] h' k' n') ∧
        (¬ on < 0 → (nI (td + D) ≤ on → zJ E mL_comesTrue (zQi Q) 61 [some (.inr x), some (.inl (nI D)), some (.inr a0), some (.inl (nI nk)), some (.inl (nI td)), some (.inl (nI (C + 0))), some (.inl (nI (i + 1))), some (.inl on)] [] h' k' n') ∧
          (¬ nI (td + D) ≤ on → zJ E mL_comesTrue (zQi Q) 61 [some (.inr x), some (.inl (nI D)), some (.inr a0), some (.inl (nI nk)), some (.inl (nI td)), some (.inl (nI (C + 1))), some (.inl (nI (i + 1))), some (.inl on)] [] h' k' n')) := by
      refine ⟨fun q => ?_, fun q => ⟨fun q2 => ?_, fun q2 => ?_⟩⟩
      · rw [if_neg (fun w => w.1 q)] at hJ; exact hJ
      · rw [if_neg (fun w => Int32.not_le.mpr w.2 q2)] at hJ; exact hJ
      · rw [if_pos ⟨q, Int32.not_le.mp q2⟩] at hJ; exact hJ
    refine ⟨fun _ => hB, fun q => ⟨k9', s_turn hS' ?_⟩⟩
    rw [g2]
    exact ⟨fun _ => hB, fun w => absurd (Int32.not_lt.mp (hf.resolve_left q)) w⟩
theorem lC24 (hnr : 0 < nr) (hD1 : 1 ≤ D) (hD : D ≤ 30) (htd : td + D ≤ 199) (ha : x + 348 ≤ a0) {came : Nat → Int32} (hV : IV r nr nk n td came) (hNS : NSs r sv s) (hs5 : s ≤ 5)
    (hq : ∀ h' r' n', KEP h0 h' x a0 → ST h' x r' (svF (FF r sv tx) s) tx (svN s) L nr nk n' (td + D) → IV r' nr nk n' (td + D) came → NSs r' (svF (FF r sv tx) s) (svN s) → Q (nI 1) h') (l7 : Option zV) (d : Nat) : ∀ (i : Nat) (h : zH), i + d = 7 * nk → ST h x r sv tx s L nr nk n td → TLD h a0 (fun k => (pN nr nk D r (nI 0)).1 (281 + k)) i → KEP h0 h x a0 →
    zJ E mL_comesTrue (zQi Q) 24 [some (.inr x), some (.inl (nI D)), some (.inr a0), some (.inl (nI nk)), some (.inl (nI td)), some (.inl (nI 0)), some (.inl (nI i)), l7] [] h k' n' := by
  induction d with
  | zero =>
    intro i h hi hS hT hK
    have hI := hS.RI
    have hn := hI.2.2.2.2.1
    have e1 : (nI (7 * nk) ≤ nI i) = True := eq_true (by rw [nI_leI (by omega) (by omega)]; omega)
    (refine jL_comesTrue 200 ?_; simp (disch := omega) only [↓wL_comesTrue_0, ↓wL_comesTrue_2, ↓wL_comesTrue_4, ↓wL_comesTrue_5, ↓wL_comesTrue_6, ↓wL_comesTrue_7, ↓wL_comesTrue_10, ↓wL_comesTrue_11, ↓wL_comesTrue_12, ↓wL_comesTrue_13, ↓wL_comesTrue_16, ↓wL_comesTrue_18, ↓wL_comesTrue_19, ↓wL_comesTrue_21, ↓wL_comesTrue_22, ↓wL_comesTrue_24, ↓wL_comesTrue_26, ↓wL_comesTrue_28, ↓wL_comesTrue_29, ↓wL_comesTrue_30, ↓wL_comesTrue_33, ↓wL_comesTrue_34, ↓wL_comesTrue_36, ↓wL_comesTrue_37, ↓wL_comesTrue_39, ↓wL_comesTrue_41, ↓wL_comesTrue_42, ↓wL_comesTrue_43, ↓wL_comesTrue_45, ↓wL_comesTrue_47, ↓wL_comesTrue_48, ↓wL_comesTrue_51, ↓wL_comesTrue_52, ↓wL_comesTrue_55, ↓wL_comesTrue_58, ↓wL_comesTrue_59, ↓wL_comesTrue_61, ↓wL_comesTrue_63, ↓wL_comesTrue_64, ↓wL_comesTrue_65, ↓wL_comesTrue_68, ↓wL_comesTrue_71, ↓wL_comesTrue_72, ↓wL_comesTrue_74, ↓wL_comesTrue_77, ↓wL_comesTrue_79, ↓wL_comesTrue_81, ↓wL_comesTrue_84, ↓wL_comesTrue_86, ↓wL_comesTrue_87, ↓wL_comesTrue_89, ↓wL_comesTrue_90, ↓wL_comesTrue_93, ↓wL_comesTrue_96, ↓wL_comesTrue_97, ↓wL_comesTrue_98, ↓wL_comesTrue_100, ↓wL_comesTrue_102, ↓wL_comesTrue_105, ↓wL_comesTrue_107, ↓wL_comesTrue_109, ↓wL_comesTrue_110, ↓wL_comesTrue_111, ↓wL_comesTrue_114, ↓wL_comesTrue_115, ↓wL_comesTrue_118, ↓wL_comesTrue_119, ↓wL_comesTrue_120, ↓wL_comesTrue_122, ↓wL_comesTrue_125, ↓wL_comesTrue_128, ↓wL_comesTrue_129, ↓wL_comesTrue_130, ↓wL_comesTrue_133, ↓wL_comesTrue_135, ↓wL_comesTrue_136, ↓wL_comesTrue_137, ↓wL_comesTrue_140, ↓wL_comesTrue_143, ↓wL_comesTrue_144, ↓wL_comesTrue_145, ↓wL_comesTrue_148, ↓wL_comesTrue_150, ↓wL_comesTrue_152, ↓wL_comesTrue_153, ↓wL_comesTrue_156, ↓wL_comesTrue_157, ↓wL_comesTrue_158, ↓wL_comesTrue_161, ↓wL_comesTrue_163, ↓wL_comesTrue_164, ↓wL_comesTrue_165, ↓wL_comesTrue_168, ↓wL_comesTrue_169, ↓wL_comesTrue_170, ↓wL_comesTrue_171, ↓wL_comesTrue_173, ↓wL_comesTrue_175, ↓wL_comesTrue_177, ↓wL_comesTrue_178, ↓wL_comesTrue_179, ↓wL_comesTrue_182, ↓wL_comesTrue_183, ↓wL_comesTrue_185, ↓wL_comesTrue_187, ↓wL_comesTrue_188, ↓wL_comesTrue_190, ↓wL_comesTrue_192, ↓wL_comesTrue_193, ↓wL_comesTrue_196, ↓wL_comesTrue_197, ↓wL_comesTrue_199, ↓wL_comesTrue_200, ↓wL_comesTrue_203, ↓wL_comesTrue_204, ↓wL_comesTrue_205, ↓wL_comesTrue_208, ↓wL_comesTrue_211, ↓wL_comesTrue_212, zQi_def, zQa_def, zQv_def, nI00, nI10, nI11, nI01, true_or, or_true, false_or, or_false, eq_self, true_implies, false_implies, not_true_eq_false, not_false_eq_true, zc9, zc1, zc2, zc3, zc1000, nI_m9, nI_add, pk_mul, ix_nI, vpT, zk_zpi, zn_zpi, zr_zpi, zk_zpa, zn_zpa, zr_zpa, zsz_zpi, zsz_zpa, zi_zpa, zpi_pa, zpa_zpa, true_and, and_true, and_self, e1])
    exact lC61 hnr hD1 hD htd ha hV hNS hs5 hq n 0 h _ (by omega) hS (by rw [show 7 * nk = i by omega]; exact hT) hK
  | succ d ih =>
    intro i h hi hS hT hK
    have k9 := hS.k9
    have hI := hS.RI
    have hn := hI.2.2.2.2.1
    have e1 : (nI (7 * nk) ≤ nI i) = False := eq_false (by rw [nI_leI (by omega) (by omega)]; omega)
    have e2 : nI i / nI 7 = nI (i / 7) := pk_div (by omega) (by omega) (by omega)
    have e3 : nI i - nI i / nI 7 * nI 7 = nI (i % 7) := pk_rem (by omega) (by omega) (by omega)
    have e4 : (nI 7 = 0) = False := eq_false (by decide)
    (refine jL_comesTrue 200 ?_; simp (disch := omega) only [↓wL_comesTrue_0, ↓wL_comesTrue_2, ↓wL_comesTrue_4, ↓wL_comesTrue_5, ↓wL_comesTrue_6, ↓wL_comesTrue_7, ↓wL_comesTrue_10, ↓wL_comesTrue_11, ↓wL_comesTrue_12, ↓wL_comesTrue_13, ↓wL_comesTrue_16, ↓wL_comesTrue_18, ↓wL_comesTrue_19, ↓wL_comesTrue_21, ↓wL_comesTrue_22, ↓wL_comesTrue_24, ↓wL_comesTrue_26, ↓wL_comesTrue_28, ↓wL_comesTrue_29, ↓wL_comesTrue_30, ↓wL_comesTrue_33, ↓wL_comesTrue_34, ↓wL_comesTrue_36, ↓wL_comesTrue_37, ↓wL_comesTrue_39, ↓wL_comesTrue_41, ↓wL_comesTrue_42, ↓wL_comesTrue_43, ↓wL_comesTrue_45, ↓wL_comesTrue_47, ↓wL_comesTrue_48, ↓wL_comesTrue_51, ↓wL_comesTrue_52, ↓wL_comesTrue_55, ↓wL_comesTrue_58, ↓wL_comesTrue_59, ↓wL_comesTrue_61, ↓wL_comesTrue_63, ↓wL_comesTrue_64, ↓wL_comesTrue_65, ↓wL_comesTrue_68, ↓wL_comesTrue_71, ↓wL_comesTrue_72, ↓wL_comesTrue_74, ↓wL_comesTrue_77, ↓wL_comesTrue_79, ↓wL_comesTrue_81, ↓wL_comesTrue_84, ↓wL_comesTrue_86, ↓wL_comesTrue_87, ↓wL_comesTrue_89, ↓wL_comesTrue_90, ↓wL_comesTrue_93, ↓wL_comesTrue_96, ↓wL_comesTrue_97, ↓wL_comesTrue_98, ↓wL_comesTrue_100, ↓wL_comesTrue_102, ↓wL_comesTrue_105, ↓wL_comesTrue_107, ↓wL_comesTrue_109, ↓wL_comesTrue_110, ↓wL_comesTrue_111, ↓wL_comesTrue_114, ↓wL_comesTrue_115, ↓wL_comesTrue_118, ↓wL_comesTrue_119, ↓wL_comesTrue_120, ↓wL_comesTrue_122, ↓wL_comesTrue_125, ↓wL_comesTrue_128, ↓wL_comesTrue_129, ↓wL_comesTrue_130, ↓wL_comesTrue_133, ↓wL_comesTrue_135, ↓wL_comesTrue_136, ↓wL_comesTrue_137, ↓wL_comesTrue_140, ↓wL_comesTrue_143, ↓wL_comesTrue_144, ↓wL_comesTrue_145, ↓wL_comesTrue_148, ↓wL_comesTrue_150, ↓wL_comesTrue_152, ↓wL_comesTrue_153, ↓wL_comesTrue_156, ↓wL_comesTrue_157, ↓wL_comesTrue_158, ↓wL_comesTrue_161, ↓wL_comesTrue_163, ↓wL_comesTrue_164, ↓wL_comesTrue_165, ↓wL_comesTrue_168, ↓wL_comesTrue_169, ↓wL_comesTrue_170, ↓wL_comesTrue_171, ↓wL_comesTrue_173, ↓wL_comesTrue_175, ↓wL_comesTrue_177, ↓wL_comesTrue_178, ↓wL_comesTrue_179, ↓wL_comesTrue_182, ↓wL_comesTrue_183, ↓wL_comesTrue_185, ↓wL_comesTrue_187, ↓wL_comesTrue_188, ↓wL_comesTrue_190, ↓wL_comesTrue_192, ↓wL_comesTrue_193, ↓wL_comesTrue_196, ↓wL_comesTrue_197, ↓wL_comesTrue_199, ↓wL_comesTrue_200, ↓wL_comesTrue_203, ↓wL_comesTrue_204, ↓wL_comesTrue_205, ↓wL_comesTrue_208, ↓wL_comesTrue_211, ↓wL_comesTrue_212, zQi_def, zQa_def, zQv_def, nI00, nI10, nI11, nI01, true_or, or_true, false_or, or_false, eq_self, true_implies, false_implies, not_true_eq_false, not_false_eq_true, zc9, zc1, zc2, zc3, zc1000, nI_m9, nI_add, pk_mul, ix_nI, vpT, zk_zpi, zn_zpi, zr_zpi, zk_zpa, zn_zpa, zr_zpa, zsz_zpi, zsz_zpa, zi_zpa, zpi_pa, zpa_zpa, true_and, and_true, and_self, e1, ↓e3, ↓e2, e4, k9])
    refine s_later hS fun h' hO hS' => ?_
    obtain ⟨t1, t2, t3⟩ := TLD_out hT ha hK.1 hO
    have hK' := KEP_out hK hO
    have ev : qLat r w0 nr nk n td (nI (i / 7)) (nI D) (nI (i % 7)) = (pN nr nk D r (nI 0)).1 (281 + i) := by
      rw [qLat_i hI (by omega) (by omega) (by omega) htd]
      exact congrArg _ (by omega)
    rw [ev]
    refine ⟨t1, by rw [t2]; exact of_eq_true (vpT (by omega) (by omega)), ?_⟩
    have hz : ∀ b, b ≠ a0 → SM h' (zpa h' a0 (zup (zi h' a0) i ((pN nr nk D r (nI 0)).1 (281 + i)))) b := fun b hb => ⟨rfl, rfl, zi_zpaN h' _ hb, rfl⟩
    refine ih (i + 1) _ (by omega) (hS'.again (CI_far hS'.1 hNS (Nat.le_refl _) (fun c c1 c2 => hz c (by omega)))) ⟨t1, t2, fun j hj => ?_⟩ ⟨hK'.1, fun c c1 c2 => SM_tr (hK'.2 c c1 c2) (hz c (by omega))⟩
    rw [zi_zpa]
    by_cases e : j = i
    · rw [zup_eq e, e]
    · rw [zup_ne e]; exact t3 j (by omega)
theorem c_comesTrue {h : zH} (hS : ST h x r sv tx s L nr nk n td) (hnr : 0 < nr) (hD1 : 1 ≤ D) (hD : D ≤ 30) (htd : td + D ≤ 199) (hx : x + 348 ≤ zsz h) {came : Nat → Int32} (hV : IV r nr nk n td came) (hNS : NSs r sv s) (hs5 : s ≤ 5)
    (hq : ∀ h' r' n', KEP h h' x (zsz h) → ST h' x r' (svF (FF r sv tx) s) tx (svN s) L nr nk n' (td + D) → IV r' nr nk n' (td + D) came → NSs r' (svF (FF r sv tx) s) (svN s) → Q (nI 1) h') : zMi E mL_comesTrue [.inr x, .inl (nI D)] h Q := by
  have hI := hS.RI
  have hz : ∀ b, b ≠ zsz h → SM h (znew h 20 56) b := fun b hb => ⟨zk_new hb, zn_new hb, zi_new hb, zr_new hb⟩
  have hS1 : ST (znew h 20 56) x r sv tx s L nr nk n td := hS.again (CI_far hS.1 hNS (Nat.le_succ _) (fun c c1 c2 => hz c (by omega)))
  have k9 := hS1.k9
  (refine eL_comesTrue 200 ?_; simp (disch := omega) only [↓wL_comesTrue_0, ↓wL_comesTrue_2, ↓wL_comesTrue_4, ↓wL_comesTrue_5, ↓wL_comesTrue_6, ↓wL_comesTrue_7, ↓wL_comesTrue_10, ↓wL_comesTrue_11, ↓wL_comesTrue_12, ↓wL_comesTrue_13, ↓wL_comesTrue_16, ↓wL_comesTrue_18, ↓wL_comesTrue_19, ↓wL_comesTrue_21, ↓wL_comesTrue_22, ↓wL_comesTrue_24, ↓wL_comesTrue_26, ↓wL_comesTrue_28, ↓wL_comesTrue_29, ↓wL_comesTrue_30, ↓wL_comesTrue_33, ↓wL_comesTrue_34, ↓wL_comesTrue_36, ↓wL_comesTrue_37, ↓wL_comesTrue_39, ↓wL_comesTrue_41, ↓wL_comesTrue_42, ↓wL_comesTrue_43, ↓wL_comesTrue_45, ↓wL_comesTrue_47, ↓wL_comesTrue_48, ↓wL_comesTrue_51, ↓wL_comesTrue_52, ↓wL_comesTrue_55, ↓wL_comesTrue_58, ↓wL_comesTrue_59, ↓wL_comesTrue_61, ↓wL_comesTrue_63, ↓wL_comesTrue_64, ↓wL_comesTrue_65, ↓wL_comesTrue_68, ↓wL_comesTrue_71, ↓wL_comesTrue_72, ↓wL_comesTrue_74, ↓wL_comesTrue_77, ↓wL_comesTrue_79, ↓wL_comesTrue_81, ↓wL_comesTrue_84, ↓wL_comesTrue_86, ↓wL_comesTrue_87, ↓wL_comesTrue_89, ↓wL_comesTrue_90, ↓wL_comesTrue_93, ↓wL_comesTrue_96, ↓wL_comesTrue_97, ↓wL_comesTrue_98, ↓wL_comesTrue_100, ↓wL_comesTrue_102, ↓wL_comesTrue_105, ↓wL_comesTrue_107, ↓wL_comesTrue_109, ↓wL_comesTrue_110, ↓wL_comesTrue_111, ↓wL_comesTrue_114, ↓wL_comesTrue_115, ↓wL_comesTrue_118, ↓wL_comesTrue_119, ↓wL_comesTrue_120, ↓wL_comesTrue_122, ↓wL_comesTrue_125, ↓wL_comesTrue_128, ↓wL_comesTrue_129, ↓wL_comesTrue_130, ↓wL_comesTrue_133, ↓wL_comesTrue_135, ↓wL_comesTrue_136, ↓wL_comesTrue_137, ↓wL_comesTrue_140, ↓wL_comesTrue_143, ↓wL_comesTrue_144, ↓wL_comesTrue_145, ↓wL_comesTrue_148, ↓wL_comesTrue_150, ↓wL_comesTrue_152, ↓wL_comesTrue_153, ↓wL_comesTrue_156, ↓wL_comesTrue_157, ↓wL_comesTrue_158, ↓wL_comesTrue_161, ↓wL_comesTrue_163, ↓wL_comesTrue_164, ↓wL_comesTrue_165, ↓wL_comesTrue_168, ↓wL_comesTrue_169, ↓wL_comesTrue_170, ↓wL_comesTrue_171, ↓wL_comesTrue_173, ↓wL_comesTrue_175, ↓wL_comesTrue_177, ↓wL_comesTrue_178, ↓wL_comesTrue_179, ↓wL_comesTrue_182, ↓wL_comesTrue_183, ↓wL_comesTrue_185, ↓wL_comesTrue_187, ↓wL_comesTrue_188, ↓wL_comesTrue_190, ↓wL_comesTrue_192, ↓wL_comesTrue_193, ↓wL_comesTrue_196, ↓wL_comesTrue_197, ↓wL_comesTrue_199, ↓wL_comesTrue_200, ↓wL_comesTrue_203, ↓wL_comesTrue_204, ↓wL_comesTrue_205, ↓wL_comesTrue_208, ↓wL_comesTrue_211, ↓wL_comesTrue_212, zQi_def, zQa_def, zQv_def, nI00, nI10, nI11, nI01, true_or, or_true, false_or, or_false, eq_self, true_implies, false_implies, not_true_eq_false, not_false_eq_true, zc9, zc1, zc2, zc3, zc1000, nI_m9, nI_add, pk_mul, ix_nI, vpT, zk_zpi, zn_zpi, zr_zpi, zk_zpa, zn_zpa, zr_zpa, zsz_zpi, zsz_zpa, zi_zpa, zpi_pa, zpa_zpa, true_and, and_true, and_self, k9])
  refine ⟨⟨by decide, by omega, by omega, by omega⟩, s_count hS1 ?_⟩
  rw [qCnt2, hI.2.1]
  refine ⟨k9, s_count hS1 ?_⟩
  rw [qCnt0, hI.2.2.2.1]
  exact lC24 hnr hD1 hD htd hx hV hNS hs5 hq _ (7 * nk) 0 (znew h 20 56) (by omega) hS1 ⟨zk_newE rfl, zn_newE rfl, fun j hj => by omega⟩ ⟨Nat.lt_succ_self _, fun c c1 c2 => hz c (by omega)⟩
end Ct
