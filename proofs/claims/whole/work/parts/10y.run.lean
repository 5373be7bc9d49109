/-! The class: running a text. -/
def pg (tx : Nat → Int32) (L : Nat) : Nat → Nat → Nat → (Nat → Int32) → Int32 × Option (Nat → Int32)
  | 0, _, _, _ => (0, none)
  | d + 1, e, cm, r =>
    if ¬ (tokS tx L e) < L then (nI cm, some r)
    else if (wdI tx (tokS tx L e) (tokE tx L (tokS tx L e))) = 8 then (-1000 - nI (tokS tx L e), none)
    else if ¬ (rr tx L (nw (wdI tx (tokS tx L e) (tokE tx L (tokS tx L e)))) (tokE tx L (tokS tx L e))).2.2 = true then (-1000 - nI (rr tx L (nw (wdI tx (tokS tx L e) (tokE tx L (tokS tx L e)))) (tokE tx L (tokS tx L e))).1, none)
    else match (CMD r (wdI tx (tokS tx L e) (tokE tx L (tokS tx L e))) (nv tx L (tokE tx L (tokS tx L e)))).2 with
      | none => (-1000 - nI (tokS tx L e), none)
      | some r' => pg tx L d (rr tx L (nw (wdI tx (tokS tx L e) (tokE tx L (tokS tx L e)))) (tokE tx L (tokS tx L e))).2.1 (cm + 1) r'
def PR (tx : Nat → Int32) (L : Nat) : Nat → Nat → (Nat → Int32) → Prop
  | 0, _, _ => True
  | d + 1, e, r => (∃ nr nk n td, RI r nr nk n td) ∧ ∀ a r', (tokS tx L e) < L → (wdI tx (tokS tx L e) (tokE tx L (tokS tx L e))) < 8 → (rr tx L (nw (wdI tx (tokS tx L e) (tokE tx L (tokS tx L e)))) (tokE tx L (tokS tx L e))).2.2 = true → CMD r (wdI tx (tokS tx L e) (tokE tx L (tokS tx L e))) (nv tx L (tokE tx L (tokS tx L e))) = (a, some r') → 0 ≤ a ∧ PR tx L d (rr tx L (nw (wdI tx (tokS tx L e) (tokE tx L (tokS tx L e)))) (tokE tx L (tokS tx L e))).2.1 r'
theorem wdI_le {tx : Nat → Int32} {s e : Nat} : wdI tx s e ≤ 8 := by unfold wdI; (repeat' split) <;> omega
def UR (Q : Int32 → zH → Prop) (h : zH) (x : Nat) (F : Nat → Nat → Int32) (s L : Nat) (o : Int32 × Option (Nat → Int32)) : Prop := match o.2 with
  | none => ∀ h', OUT h h' x (x + 348) → CI' h' x (F 1) (F 4) (F 5) s L → Q o.1 h'
  | some r' => ∀ h', OUT h h' x (x + 348) → CI' h' x r' (svF F s) (F 5) (svN s) 0 → Q o.1 h'
theorem TS_of {h : zH} {x L : Nat} {tx : Nat → Int32} (hX : XS h x) (hT : TX h x tx L) : TS h (x + 304) tx L := ⟨hX.2.2.1, hT.1, hT.2.1, fun k hk => (hT.2.2 k hk).1⟩
theorem RD_keep {h h' : zH} {x L s e : Nat} {tx : Nat → Int32} (hX : XS h x) (hR : RD h h' (x + 304) tx L s e) : XS h' x ∧ OUT h h' (x + 304) (x + 307) := by
  obtain ⟨⟨r1, r2, r3, r4⟩, r5, -⟩ := hR
  have hO : OUT h h' (x + 304) (x + 307) := ⟨by omega, fun c _ hc => ⟨by rw [r1], by rw [r2], r5 c (by omega) (by omega), by rw [r3]⟩⟩
  obtain ⟨-, -, -, h1, h2, h3, hz⟩ := id hX
  exact ⟨XS_of hX hO.1 (fun c hc => ⟨by rw [r1], by rw [r2], by rw [r3]⟩) (SP_tr h1 (OUT_same hO (by omega) (by omega))) (fun i hi => SP_tr (h2 i hi) (OUT_same hO (by omega) (by omega))) (WP_tr h3 (OUT_same hO (by omega) (by omega))), hO⟩
theorem RD_TX {h h' : zH} {x L s e : Nat} {tx : Nat → Int32} (hT : TX h x tx L) (hR : RD h h' (x + 304) tx L s e) : TX h' x tx L := by
  obtain ⟨-, -, ⟨-, t1, t2, t3⟩, -⟩ := hR
  exact ⟨t1, t2, fun k hk => ⟨t3 k hk, (hT.2.2 k hk).2⟩⟩
theorem m1000 : ∀ v, v < 141 → ¬ (-1000 - nI v = 0) ∧ (-1000 - nI v) < 0 ∧ ¬ (0 ≤ -1000 - nI v) := by decide +kernel
theorem l_rfail {E : zE} {Q : Int32 → zH → Prop} {x o s L v cm : Nat} {h0 h : zH} {r : Nat → Int32} {F : Nat → Nat → Int32} {l3 l4 : Option zV} {k' n' : Nat} (hv : v < 141) (hX : XS h x) (hH : HI h x o r (F 4) s) (hT : TX h x (F 5) L) (hS : SR h (x + 355) (spA x o s) (F 1)) (hO : OUT h0 h x (x + 348))
    (hq : ∀ h', OUT h0 h' x (x + 348) → CI' h' x (F 1) (F 4) (F 5) s L → Q (-1000 - nI v) h') : zJ E mX8_run (zQi Q) 15 [some (.inr x), some (.inl (nI cm)), some (.inl (-1000 - nI v)), l3, l4] [] h k' n' := by
  obtain ⟨⟨a1, a2, a3, a4, a5⟩, ⟨b1, b2, b3, b4, b5⟩, -, hS1, hS2, -, hz⟩ := id hX
  obtain ⟨ho, ho6, hs, hs5, hR, hRs⟩ := id hH
  obtain ⟨m1, m2, m3⟩ := m1000 v hv
  have k4 := hS1.1
  (refine jX8_run 200 ?_; simp (disch := omega) only [↓wX8_run_0, ↓wX8_run_1, ↓wX8_run_4, ↓wX8_run_5, ↓wX8_run_6, ↓wX8_run_7, ↓wX8_run_8, ↓wX8_run_9, ↓wX8_run_12, ↓wX8_run_15, ↓wX8_run_16, ↓wX8_run_19, ↓wX8_run_20, ↓wX8_run_23, ↓wX8_run_26, ↓wX8_run_27, ↓wX8_run_30, ↓wX8_run_33, ↓wX8_run_36, ↓wX8_run_37, ↓wX8_run_40, ↓wX8_run_43, ↓wX8_run_44, ↓wX8_run_45, ↓wX8_run_48, ↓wX8_run_51, ↓wX8_run_53, ↓wX8_run_54, ↓wX8_run_57, ↓wX8_run_59, ↓wX8_run_62, ↓wX8_run_65, ↓wX8_run_68, ↓wX8_run_69, ↓wX8_run_72, ↓wX8_run_75, ↓wX8_run_76, ↓wX8_run_77, ↓wX8_run_80, ↓wX8_run_81, ↓wX8_run_83, ↓wX8_run_86, ↓wX8_run_89, ↓wX8_run_92, ↓wX8_run_93, ↓wX8_run_94, ↓wX8_run_95, ↓wX8_run_98, ↓wX8_run_101, ↓wX8_run_104, ↓wX8_run_105, ↓wX8_run_108, ↓wX8_run_109, ↓wX8_run_112, ↓wX8_run_113, ↓wX8_run_116, ↓wX8_run_119, ↓wX8_run_122, ↓wX8_run_123, ↓wX8_run_124, ↓wX8_run_125, ↓wX8_run_128, ↓wX8_run_129, ↓wX8_run_132, ↓wX8_run_133, ↓wX8_run_134, ↓wX8_run_137, zQi_def, zQa_def, zQv_def, nI00, nI10, nI11, nI01, true_or, or_true, false_or, or_false, eq_self, true_implies, false_implies, not_true_eq_false, not_false_eq_true, zc9, zc1, zc2, zc3, zc1000, nI_m9, nI_add, pk_mul, ix_nI, vpT, zk_zpi, zn_zpi, zr_zpi, zk_zpa, zn_zpa, zr_zpa, zsz_zpi, zsz_zpa, zi_zpa, zpi_pa, zpa_zpa, true_and, and_true, and_self, a1, a2, a3, b1, m1, m2, m3])
  refine v_spare hX ho ho6 hs hs5 ?_
  try simp (disch := omega) only [↓wX8_run_0, ↓wX8_run_1, ↓wX8_run_4, ↓wX8_run_5, ↓wX8_run_6, ↓wX8_run_7, ↓wX8_run_8, ↓wX8_run_9, ↓wX8_run_12, ↓wX8_run_15, ↓wX8_run_16, ↓wX8_run_19, ↓wX8_run_20, ↓wX8_run_23, ↓wX8_run_26, ↓wX8_run_27, ↓wX8_run_30, ↓wX8_run_33, ↓wX8_run_36, ↓wX8_run_37, ↓wX8_run_40, ↓wX8_run_43, ↓wX8_run_44, ↓wX8_run_45, ↓wX8_run_48, ↓wX8_run_51, ↓wX8_run_53, ↓wX8_run_54, ↓wX8_run_57, ↓wX8_run_59, ↓wX8_run_62, ↓wX8_run_65, ↓wX8_run_68, ↓wX8_run_69, ↓wX8_run_72, ↓wX8_run_75, ↓wX8_run_76, ↓wX8_run_77, ↓wX8_run_80, ↓wX8_run_81, ↓wX8_run_83, ↓wX8_run_86, ↓wX8_run_89, ↓wX8_run_92, ↓wX8_run_93, ↓wX8_run_94, ↓wX8_run_95, ↓wX8_run_98, ↓wX8_run_101, ↓wX8_run_104, ↓wX8_run_105, ↓wX8_run_108, ↓wX8_run_109, ↓wX8_run_112, ↓wX8_run_113, ↓wX8_run_116, ↓wX8_run_119, ↓wX8_run_122, ↓wX8_run_123, ↓wX8_run_124, ↓wX8_run_125, ↓wX8_run_128, ↓wX8_run_129, ↓wX8_run_132, ↓wX8_run_133, ↓wX8_run_134, ↓wX8_run_137, zQi_def, zQa_def, zQv_def, nI00, nI10, nI11, nI01, true_or, or_true, false_or, or_false, eq_self, true_implies, false_implies, not_true_eq_false, not_false_eq_true, zc9, zc1, zc2, zc3, zc1000, nI_m9, nI_add, pk_mul, ix_nI, vpT, zk_zpi, zn_zpi, zr_zpi, zk_zpa, zn_zpa, zr_zpa, zsz_zpi, zsz_zpa, zi_zpa, zpi_pa, zpa_zpa, true_and, and_true, and_self, a1, a2, a3, b1, k4]
  refine v_copy3 hS1 (hS2 _ (by omega)) (by unfold spA; omega) (by omega) (SN_8 hS.2) ?_
  intro h2 z2 o2 p2 cc
  have X2 : XS h2 x := XS_1 hX (OUT_mono o2 (by omega) (by omega)) p2
  have s44 := o2.2 (x + 44) (by omega) (by omega)
  have s304 := o2.2 (x + 304) (by omega) (by omega)
  have s305 := o2.2 (x + 305) (by omega) (by omega)
  try simp (disch := omega) only [↓wX8_run_0, ↓wX8_run_1, ↓wX8_run_4, ↓wX8_run_5, ↓wX8_run_6, ↓wX8_run_7, ↓wX8_run_8, ↓wX8_run_9, ↓wX8_run_12, ↓wX8_run_15, ↓wX8_run_16, ↓wX8_run_19, ↓wX8_run_20, ↓wX8_run_23, ↓wX8_run_26, ↓wX8_run_27, ↓wX8_run_30, ↓wX8_run_33, ↓wX8_run_36, ↓wX8_run_37, ↓wX8_run_40, ↓wX8_run_43, ↓wX8_run_44, ↓wX8_run_45, ↓wX8_run_48, ↓wX8_run_51, ↓wX8_run_53, ↓wX8_run_54, ↓wX8_run_57, ↓wX8_run_59, ↓wX8_run_62, ↓wX8_run_65, ↓wX8_run_68, ↓wX8_run_69, ↓wX8_run_72, ↓wX8_run_75, ↓wX8_run_76, ↓wX8_run_77, ↓wX8_run_80, ↓wX8_run_81, ↓wX8_run_83, ↓wX8_run_86, ↓wX8_run_89, ↓wX8_run_92, ↓wX8_run_93, ↓wX8_run_94, ↓wX8_run_95, ↓wX8_run_98, ↓wX8_run_101, ↓wX8_run_104, ↓wX8_run_105, ↓wX8_run_108, ↓wX8_run_109, ↓wX8_run_112, ↓wX8_run_113, ↓wX8_run_116, ↓wX8_run_119, ↓wX8_run_122, ↓wX8_run_123, ↓wX8_run_124, ↓wX8_run_125, ↓wX8_run_128, ↓wX8_run_129, ↓wX8_run_132, ↓wX8_run_133, ↓wX8_run_134, ↓wX8_run_137, zQi_def, zQa_def, zQv_def]
  refine hq h2 (OUT_tr hO (OUT_mono o2 (by omega) (by omega))) ⟨X2, ⟨o, by rw [s44.2.2.1]; exact ho, ho6, by rw [s44.2.2.1]; exact hs, hs5, cc _ _ hS (by omega), fun i hi => SR_out (hRs i hi) o2 (by omega) (by omega) (by omega)⟩, ?_⟩
  unfold TX
  rw [s304.2.2.1, s305.2.2.1]
  exact hT
theorem z00 : (0 ≤ nI 0) = True := eq_true (by decide)
def RS (h0 h : zH) (x o : Nat) (r : Nat → Int32) (F : Nat → Nat → Int32) (s L : Nat) (sx : Int32) (e : Nat) : Prop := XS h x ∧ HI h x o r (F 4) s ∧ TX h x (F 5) L ∧ SR h (x + 355) (spA x o s) (F 1) ∧ OUT h0 h x (x + 348) ∧ zi h (x + 304) 3 = sx ∧ zi h (x + 304) 4 = nI e
theorem RS_RD {h0 h h' : zH} {x o s L e sx' e' : Nat} {sx : Int32} {r : Nat → Int32} {F : Nat → Nat → Int32} (hB : RS h0 h x o r F s L sx e) (rd : RD h h' (x + 304) (F 5) L sx' e') : RS h0 h' x o r F s L (nI sx') e' := by
  obtain ⟨hX, hH, hT, hS, hO, -⟩ := hB
  have hz := hX.2.2.2.2.2.2
  have ho6 := hH.2.1
  obtain ⟨X1, O1⟩ := RD_keep hX rd
  refine ⟨X1, HI_out hX hH O1 (by omega) (by omega), RD_TX hT rd, SR_out hS O1 ?_ ?_ (by omega), OUT_tr hO (OUT_mono O1 (by omega) (by omega)), rd.2.2.2.1, rd.2.2.2.2⟩
  · unfold spA; omega
  · unfold spA; omega
theorem v_tokB {E : zE} {Q : Int32 → zH → Prop} {h0 h : zH} {x o s L e : Nat} {sx : Int32} {r : Nat → Int32} {F : Nat → Nat → Int32} (hB : RS h0 h x o r F s L sx e) (he : e ≤ L) (hq : ∀ h', RS h0 h' x o r F s L (nI (tokS (F 5) L e)) (tokE (F 5) L (tokS (F 5) L e)) → Q (zb ((tokS (F 5) L e) < L)) h') : zMi E mX5_readToken [.inr (x + 304)] h Q := by
  have hTS := TS_of hB.1 hB.2.2.1
  refine v_readToken hTS hB.2.2.2.2.2.2 he (hq _ (RS_RD hB ⟨⟨rfl, rfl, rfl, rfl⟩, fun c hc _ => zi_curN _ hc, TS_cur hTS, zi_cur3 _ _ _ _, zi_cur4 _ _ _ _⟩))
theorem v_restB {E : zE} {Q : Int32 → zH → Prop} {h0 h : zH} {x o s L sx e w : Nat} {r : Nat → Int32} {F : Nat → Nat → Int32} (hB : RS h0 h x o r F s L (nI sx) e) (he : e ≤ L) (hw : w < 8)
    (hq : ∀ h', RS h0 h' x o r F s L (nI (rr (F 5) L (nw w) e).1) (rr (F 5) L (nw w) e).2.1 → ((rr (F 5) L (nw w) e).2.2 = true → ∀ k, k < nw w → zi h' (x + 306) k = nv (F 5) L e k) → Q (zb ((rr (F 5) L (nw w) e).2.2 = true)) h') : zMi E mX5_readRest [.inr (x + 304), .inl (wdC w)] h Q := by
  have hTS := TS_of hB.1 hB.2.2.1
  exact v_readRest hTS hB.2.2.2.2.2.1 hB.2.2.2.2.2.2 he hw (fun h' rd hN => hq h' (RS_RD hB rd) hN)
theorem v_obB {E : zE} {Q : Int32 → zH → Prop} {h0 h : zH} {x o s L e w : Nat} {sx : Int32} {r g : Nat → Int32} {F : Nat → Nat → Int32} (hB : RS h0 h x o r F s L sx e) (hw : w < 8) (hg : ∀ k, k < nw w → zi h (x + 306) k = g k)
    (hf : ∀ a, a < 0 → CMD r w g = (a, none) → Q a h) (hs : ∀ a r', 0 ≤ a → CMD r w g = (a, some r') → ∀ h', RS h0 h' x o r' F s L sx e → Q a h') : zMi E mX8_obey [.inr x, .inl (wdC w)] h Q := by
  obtain ⟨hX, hH, hT, hS, hO, h3, h4⟩ := hB
  have hz := hX.2.2.2.2.2.2
  have ho6 := hH.2.1
  obtain ⟨nr, nk, n, td, hW⟩ := hH.2.2.2.2.1.1
  have hI : RI r nr nk n td := by
    obtain ⟨-, p, -, hR⟩ := hW
    exact hR.1
  refine v_obey hX hW hw ?_
  rw [cmdO_g (g' := g) hw hg, ← CMD_eq hI]
  have tl : TL r (CMD r w g) := by rw [CMD_eq hI]; exact tlCmd hI
  revert tl hf hs
  rcases CMD r w g with ⟨a, _ | r'⟩
  · intro hf hs tl k0
    exact hf a k0 rfl
  · intro hf hs tl k0 h' z' O' W'
    obtain ⟨X3, H3, T3⟩ := act_keep hX hH hT O' W' (tl r' rfl)
    have m := (O'.2 (x + 304) (by omega) (by omega)).2.2.1
    refine hs a r' k0 rfl h' ⟨X3, H3, T3, SR_out hS O' ?_ ?_ (by omega), OUT_tr hO (OUT_mono O' (by omega) (by omega)), by rw [m]; exact h3, by rw [m]; exact h4⟩
    · unfold spA; omega
    · unfold spA; omega
theorem RS_fail {E : zE} {Q : Int32 → zH → Prop} {x o s L v cm e : Nat} {sx : Int32} {h0 h : zH} {r : Nat → Int32} {F : Nat → Nat → Int32} {l3 l4 : Option zV} {k' n' : Nat} (hv : v < 141) (hB : RS h0 h x o r F s L sx e)
    (hq : ∀ h', OUT h0 h' x (x + 348) → CI' h' x (F 1) (F 4) (F 5) s L → Q (-1000 - nI v) h') : zJ E mX8_run (zQi Q) 15 [some (.inr x), some (.inl (nI cm)), some (.inl (-1000 - nI v)), l3, l4] [] h k' n' :=
  l_rfail hv hB.1 hB.2.1 hB.2.2.1 hB.2.2.2.1 hB.2.2.2.2.1 hq
theorem RS_f {h0 h : zH} {x o s L e : Nat} {sx : Int32} {r : Nat → Int32} {F : Nat → Nat → Int32} (hB : RS h0 h x o r F s L sx e) : zk h x = 9 ∧ zr h x 2 = x + 304 ∧ zk h (x + 304) = 6 ∧ zi h (x + 304) 3 = sx := ⟨hB.1.1.1, hB.1.1.2.2.2.1, hB.1.2.2.1.1, hB.2.2.2.2.2.1⟩
theorem l_rsucc {E : zE} {Q : Int32 → zH → Prop} {x o s L cm e : Nat} {sx : Int32} {h0 h : zH} {r : Nat → Int32} {F : Nat → Nat → Int32} (hcm : cm < 140) (hB : RS h0 h x o r F s L sx e)
    (hq : ∀ h', OUT h0 h' x (x + 348) → CI' h' x r (svF F s) (F 5) (svN s) 0 → Q (nI cm) h') : zMi E mX8_conclude [.inr x, .inl (nI cm)] (zpa h (x + 304) (zup (zi h (x + 304)) 2 (nI 0))) Q := by
  obtain ⟨hX, hH, hT, hS, hO, h3, h4⟩ := hB
  have hz := hX.2.2.2.2.2.2
  have ho6 := hH.2.1
  have O2 := OUT_zpa h (x + 304) (zup (zi h (x + 304)) 2 (nI 0))
  refine v_conc_s (F := F) (XS_i hX (Or.inr (by omega))) (HI_out hX hH O2 (by omega) (by omega)) (L := 0) (tx := F 5) ⟨by rw [zi_zpa, zup_eq rfl], by omega, fun k hk => by omega⟩ (SR_out hS O2 (by unfold spA; omega) (by unfold spA; omega) (by omega)) ?_ ?_
  · rw [i32le, nIn (by omega)]; exact Int.natCast_nonneg _
  · intro h2 z2 O3 X3 H3 T3
    exact hq h2 (OUT_tr hO (OUT_tr (OUT_mono O2 (by omega) (by omega)) (OUT_mono O3 (by omega) (by omega)))) ⟨X3, H3, T3⟩
theorem l_run {E : zE} {Q : Int32 → zH → Prop} {x s L : Nat} {h0 : zH} {F : Nat → Nat → Int32} {k' n' : Nat} (hL : L ≤ 140) (d : Nat) : ∀ e cm o sx r h l3 l4, L < e + d → e ≤ L → 2 * cm ≤ e → RS h0 h x o r F s L sx e → (PR (F 5) L d e r → UR Q h0 x F s L (pg (F 5) L d e cm r)) →
    zJ E mX8_run (zQi Q) 15 [some (.inr x), some (.inl (nI cm)), some (.inl (nI 0)), l3, l4] [] h k' n' := by
  induction d with
  | zero => intro e cm o sx r h l3 l4 h1 h2; omega
  | succ d ih =>
    intro e cm o sx r h l3 l4 hd he hcm hB hq
    obtain ⟨a1, a2, a3, a4⟩ := RS_f hB
    have hI : ∃ nr nk n td, RI r nr nk n td := by
      obtain ⟨nr, nk, n, td, -, p, -, hR⟩ := hB.2.1.2.2.2.2.1.1
      exact ⟨nr, nk, n, td, hR.1⟩
    have hcm' : ¬ 140 ≤ cm := by omega
    (refine jX8_run 200 ?_; simp (disch := omega) only [↓wX8_run_0, ↓wX8_run_1, ↓wX8_run_4, ↓wX8_run_5, ↓wX8_run_6, ↓wX8_run_7, ↓wX8_run_8, ↓wX8_run_9, ↓wX8_run_12, ↓wX8_run_15, ↓wX8_run_16, ↓wX8_run_19, ↓wX8_run_20, ↓wX8_run_23, ↓wX8_run_26, ↓wX8_run_27, ↓wX8_run_30, ↓wX8_run_33, ↓wX8_run_36, ↓wX8_run_37, ↓wX8_run_40, ↓wX8_run_43, ↓wX8_run_44, ↓wX8_run_45, ↓wX8_run_48, ↓wX8_run_51, ↓wX8_run_53, ↓wX8_run_54, ↓wX8_run_57, ↓wX8_run_59, ↓wX8_run_62, ↓wX8_run_65, ↓wX8_run_68, ↓wX8_run_69, ↓wX8_run_72, ↓wX8_run_75, ↓wX8_run_76, ↓wX8_run_77, ↓wX8_run_80, ↓wX8_run_81, ↓wX8_run_83, ↓wX8_run_86, ↓wX8_run_89, ↓wX8_run_92, ↓wX8_run_93, ↓wX8_run_94, ↓wX8_run_95, ↓wX8_run_98, ↓wX8_run_101, ↓wX8_run_104, ↓wX8_run_105, ↓wX8_run_108, ↓wX8_run_109, ↓wX8_run_112, ↓wX8_run_113, ↓wX8_run_116, ↓wX8_run_119, ↓wX8_run_122, ↓wX8_run_123, ↓wX8_run_124, ↓wX8_run_125, ↓wX8_run_128, ↓wX8_run_129, ↓wX8_run_132, ↓wX8_run_133, ↓wX8_run_134, ↓wX8_run_137, zQi_def, zQa_def, zQv_def, nI00, nI10, nI11, nI01, true_or, or_true, false_or, or_false, eq_self, true_implies, false_implies, not_true_eq_false, not_false_eq_true, zc9, zc1, zc2, zc3, zc1000, nI_m9, nI_add, pk_mul, ix_nI, vpT, zk_zpi, zn_zpi, zr_zpi, zk_zpa, zn_zpa, zr_zpa, zsz_zpi, zsz_zpa, zi_zpa, zpi_pa, zpa_zpa, true_and, and_true, and_self, a1, a2, a3, nI_leI, hcm'])
    refine v_tokB hB he ?_
    have g1 := tokS_le (tx := F 5) he
    have g2 := tokE_le (tx := F 5) g1.2
    clear hB a1 a2 a3 a4 h
    intro h hB
    obtain ⟨a1, a2, a3, a4⟩ := RS_f hB
    have hTS := TS_of hB.1 hB.2.2.1
    unfold pg PR at hq
    by_cases hs : (tokS (F 5) L e) < L
    · rw [if_neg (not_not_intro hs)] at hq
      rw [zb_t hs]
      try simp (disch := omega) only [↓wX8_run_0, ↓wX8_run_1, ↓wX8_run_4, ↓wX8_run_5, ↓wX8_run_6, ↓wX8_run_7, ↓wX8_run_8, ↓wX8_run_9, ↓wX8_run_12, ↓wX8_run_15, ↓wX8_run_16, ↓wX8_run_19, ↓wX8_run_20, ↓wX8_run_23, ↓wX8_run_26, ↓wX8_run_27, ↓wX8_run_30, ↓wX8_run_33, ↓wX8_run_36, ↓wX8_run_37, ↓wX8_run_40, ↓wX8_run_43, ↓wX8_run_44, ↓wX8_run_45, ↓wX8_run_48, ↓wX8_run_51, ↓wX8_run_53, ↓wX8_run_54, ↓wX8_run_57, ↓wX8_run_59, ↓wX8_run_62, ↓wX8_run_65, ↓wX8_run_68, ↓wX8_run_69, ↓wX8_run_72, ↓wX8_run_75, ↓wX8_run_76, ↓wX8_run_77, ↓wX8_run_80, ↓wX8_run_81, ↓wX8_run_83, ↓wX8_run_86, ↓wX8_run_89, ↓wX8_run_92, ↓wX8_run_93, ↓wX8_run_94, ↓wX8_run_95, ↓wX8_run_98, ↓wX8_run_101, ↓wX8_run_104, ↓wX8_run_105, ↓wX8_run_108, ↓wX8_run_109, ↓wX8_run_112, ↓wX8_run_113, ↓wX8_run_116, ↓wX8_run_119, ↓wX8_run_122, ↓wX8_run_123, ↓wX8_run_124, ↓wX8_run_125, ↓wX8_run_128, ↓wX8_run_129, ↓wX8_run_132, ↓wX8_run_133, ↓wX8_run_134, ↓wX8_run_137, zQi_def, zQa_def, zQv_def, nI00, nI10, nI11, nI01, true_or, or_true, false_or, or_false, eq_self, true_implies, false_implies, not_true_eq_false, not_false_eq_true, zc9, zc1, zc2, zc3, zc1000, nI_m9, nI_add, pk_mul, ix_nI, vpT, zk_zpi, zn_zpi, zr_zpi, zk_zpa, zn_zpa, zr_zpa, zsz_zpi, zsz_zpa, zi_zpa, zpi_pa, zpa_zpa, true_and, and_true, and_self, a1, a2, a3, a4]
      refine v_word hTS a4 hB.2.2.2.2.2.2 g2.1 g2.2.1 ?_
      try simp (disch := omega) only [↓wX8_run_0, ↓wX8_run_1, ↓wX8_run_4, ↓wX8_run_5, ↓wX8_run_6, ↓wX8_run_7, ↓wX8_run_8, ↓wX8_run_9, ↓wX8_run_12, ↓wX8_run_15, ↓wX8_run_16, ↓wX8_run_19, ↓wX8_run_20, ↓wX8_run_23, ↓wX8_run_26, ↓wX8_run_27, ↓wX8_run_30, ↓wX8_run_33, ↓wX8_run_36, ↓wX8_run_37, ↓wX8_run_40, ↓wX8_run_43, ↓wX8_run_44, ↓wX8_run_45, ↓wX8_run_48, ↓wX8_run_51, ↓wX8_run_53, ↓wX8_run_54, ↓wX8_run_57, ↓wX8_run_59, ↓wX8_run_62, ↓wX8_run_65, ↓wX8_run_68, ↓wX8_run_69, ↓wX8_run_72, ↓wX8_run_75, ↓wX8_run_76, ↓wX8_run_77, ↓wX8_run_80, ↓wX8_run_81, ↓wX8_run_83, ↓wX8_run_86, ↓wX8_run_89, ↓wX8_run_92, ↓wX8_run_93, ↓wX8_run_94, ↓wX8_run_95, ↓wX8_run_98, ↓wX8_run_101, ↓wX8_run_104, ↓wX8_run_105, ↓wX8_run_108, ↓wX8_run_109, ↓wX8_run_112, ↓wX8_run_113, ↓wX8_run_116, ↓wX8_run_119, ↓wX8_run_122, ↓wX8_run_123, ↓wX8_run_124, ↓wX8_run_125, ↓wX8_run_128, ↓wX8_run_129, ↓wX8_run_132, ↓wX8_run_133, ↓wX8_run_134, ↓wX8_run_137, zQi_def, zQa_def, zQv_def, nI00, nI10, nI11, nI01, true_or, or_true, false_or, or_false, eq_self, true_implies, false_implies, not_true_eq_false, not_false_eq_true, zc9, zc1, zc2, zc3, zc1000, nI_m9, nI_add, pk_mul, ix_nI, vpT, zk_zpi, zn_zpi, zr_zpi, zk_zpa, zn_zpa, zr_zpa, zsz_zpi, zsz_zpa, zi_zpa, zpi_pa, zpa_zpa, true_and, and_true, and_self, a1, a2, a3, a4]
      by_cases hw8 : (wdI (F 5) (tokS (F 5) L e) (tokE (F 5) L (tokS (F 5) L e))) = 8
      · rw [if_pos hw8] at hq
        have hq := hq ⟨hI, fun _ _ _ q => absurd q (by omega)⟩
        rw [hw8]
        refine v_readRest8 ?_
        try simp (disch := omega) only [↓wX8_run_0, ↓wX8_run_1, ↓wX8_run_4, ↓wX8_run_5, ↓wX8_run_6, ↓wX8_run_7, ↓wX8_run_8, ↓wX8_run_9, ↓wX8_run_12, ↓wX8_run_15, ↓wX8_run_16, ↓wX8_run_19, ↓wX8_run_20, ↓wX8_run_23, ↓wX8_run_26, ↓wX8_run_27, ↓wX8_run_30, ↓wX8_run_33, ↓wX8_run_36, ↓wX8_run_37, ↓wX8_run_40, ↓wX8_run_43, ↓wX8_run_44, ↓wX8_run_45, ↓wX8_run_48, ↓wX8_run_51, ↓wX8_run_53, ↓wX8_run_54, ↓wX8_run_57, ↓wX8_run_59, ↓wX8_run_62, ↓wX8_run_65, ↓wX8_run_68, ↓wX8_run_69, ↓wX8_run_72, ↓wX8_run_75, ↓wX8_run_76, ↓wX8_run_77, ↓wX8_run_80, ↓wX8_run_81, ↓wX8_run_83, ↓wX8_run_86, ↓wX8_run_89, ↓wX8_run_92, ↓wX8_run_93, ↓wX8_run_94, ↓wX8_run_95, ↓wX8_run_98, ↓wX8_run_101, ↓wX8_run_104, ↓wX8_run_105, ↓wX8_run_108, ↓wX8_run_109, ↓wX8_run_112, ↓wX8_run_113, ↓wX8_run_116, ↓wX8_run_119, ↓wX8_run_122, ↓wX8_run_123, ↓wX8_run_124, ↓wX8_run_125, ↓wX8_run_128, ↓wX8_run_129, ↓wX8_run_132, ↓wX8_run_133, ↓wX8_run_134, ↓wX8_run_137, zQi_def, zQa_def, zQv_def, nI00, nI10, nI11, nI01, true_or, or_true, false_or, or_false, eq_self, true_implies, false_implies, not_true_eq_false, not_false_eq_true, zc9, zc1, zc2, zc3, zc1000, nI_m9, nI_add, pk_mul, ix_nI, vpT, zk_zpi, zn_zpi, zr_zpi, zk_zpa, zn_zpa, zr_zpa, zsz_zpi, zsz_zpa, zi_zpa, zpi_pa, zpa_zpa, true_and, and_true, and_self, a1, a2, a3, a4]
        exact RS_fail (by omega) hB hq
      · rw [if_neg hw8] at hq
        have hw : (wdI (F 5) (tokS (F 5) L e) (tokE (F 5) L (tokS (F 5) L e))) < 8 := by have := wdI_le (tx := F 5) (s := (tokS (F 5) L e)) (e := (tokE (F 5) L (tokS (F 5) L e))); omega
        have g3 := rr_le (tx := F 5) (L := L) (nw (wdI (F 5) (tokS (F 5) L e) (tokE (F 5) L (tokS (F 5) L e)))) (tokE (F 5) L (tokS (F 5) L e)) g2.2.1
        have g2' := g2.2.2 hs
        generalize (wdI (F 5) (tokS (F 5) L e) (tokE (F 5) L (tokS (F 5) L e))) = w at *
        refine v_restB hB g2.2.1 hw ?_
        clear hB a1 a2 a3 a4 hTS h
        intro h hB hN
        obtain ⟨a1, a2, a3, a4⟩ := RS_f hB
        by_cases ok : (rr (F 5) L (nw w) (tokE (F 5) L (tokS (F 5) L e))).2.2 = true
        · rw [if_neg (not_not_intro ok)] at hq
          rw [zb_t ok]
          try simp (disch := omega) only [↓wX8_run_0, ↓wX8_run_1, ↓wX8_run_4, ↓wX8_run_5, ↓wX8_run_6, ↓wX8_run_7, ↓wX8_run_8, ↓wX8_run_9, ↓wX8_run_12, ↓wX8_run_15, ↓wX8_run_16, ↓wX8_run_19, ↓wX8_run_20, ↓wX8_run_23, ↓wX8_run_26, ↓wX8_run_27, ↓wX8_run_30, ↓wX8_run_33, ↓wX8_run_36, ↓wX8_run_37, ↓wX8_run_40, ↓wX8_run_43, ↓wX8_run_44, ↓wX8_run_45, ↓wX8_run_48, ↓wX8_run_51, ↓wX8_run_53, ↓wX8_run_54, ↓wX8_run_57, ↓wX8_run_59, ↓wX8_run_62, ↓wX8_run_65, ↓wX8_run_68, ↓wX8_run_69, ↓wX8_run_72, ↓wX8_run_75, ↓wX8_run_76, ↓wX8_run_77, ↓wX8_run_80, ↓wX8_run_81, ↓wX8_run_83, ↓wX8_run_86, ↓wX8_run_89, ↓wX8_run_92, ↓wX8_run_93, ↓wX8_run_94, ↓wX8_run_95, ↓wX8_run_98, ↓wX8_run_101, ↓wX8_run_104, ↓wX8_run_105, ↓wX8_run_108, ↓wX8_run_109, ↓wX8_run_112, ↓wX8_run_113, ↓wX8_run_116, ↓wX8_run_119, ↓wX8_run_122, ↓wX8_run_123, ↓wX8_run_124, ↓wX8_run_125, ↓wX8_run_128, ↓wX8_run_129, ↓wX8_run_132, ↓wX8_run_133, ↓wX8_run_134, ↓wX8_run_137, zQi_def, zQa_def, zQv_def, nI00, nI10, nI11, nI01, true_or, or_true, false_or, or_false, eq_self, true_implies, false_implies, not_true_eq_false, not_false_eq_true, zc9, zc1, zc2, zc3, zc1000, nI_m9, nI_add, pk_mul, ix_nI, vpT, zk_zpi, zn_zpi, zr_zpi, zk_zpa, zn_zpa, zr_zpa, zsz_zpi, zsz_zpa, zi_zpa, zpi_pa, zpa_zpa, true_and, and_true, and_self, a1, a2, a3, a4]
          have g3' := g3.2.2.2 ok
          refine v_obB hB hw (hN ok) ?_ ?_
          · intro a h0 hc
            rw [hc] at hq
            have hq := hq ⟨hI, fun a' r' _ _ _ q => by cases q⟩
            have h0' : ¬ 0 ≤ a := Int32.not_le.mpr h0
            try simp (disch := omega) only [↓wX8_run_0, ↓wX8_run_1, ↓wX8_run_4, ↓wX8_run_5, ↓wX8_run_6, ↓wX8_run_7, ↓wX8_run_8, ↓wX8_run_9, ↓wX8_run_12, ↓wX8_run_15, ↓wX8_run_16, ↓wX8_run_19, ↓wX8_run_20, ↓wX8_run_23, ↓wX8_run_26, ↓wX8_run_27, ↓wX8_run_30, ↓wX8_run_33, ↓wX8_run_36, ↓wX8_run_37, ↓wX8_run_40, ↓wX8_run_43, ↓wX8_run_44, ↓wX8_run_45, ↓wX8_run_48, ↓wX8_run_51, ↓wX8_run_53, ↓wX8_run_54, ↓wX8_run_57, ↓wX8_run_59, ↓wX8_run_62, ↓wX8_run_65, ↓wX8_run_68, ↓wX8_run_69, ↓wX8_run_72, ↓wX8_run_75, ↓wX8_run_76, ↓wX8_run_77, ↓wX8_run_80, ↓wX8_run_81, ↓wX8_run_83, ↓wX8_run_86, ↓wX8_run_89, ↓wX8_run_92, ↓wX8_run_93, ↓wX8_run_94, ↓wX8_run_95, ↓wX8_run_98, ↓wX8_run_101, ↓wX8_run_104, ↓wX8_run_105, ↓wX8_run_108, ↓wX8_run_109, ↓wX8_run_112, ↓wX8_run_113, ↓wX8_run_116, ↓wX8_run_119, ↓wX8_run_122, ↓wX8_run_123, ↓wX8_run_124, ↓wX8_run_125, ↓wX8_run_128, ↓wX8_run_129, ↓wX8_run_132, ↓wX8_run_133, ↓wX8_run_134, ↓wX8_run_137, zQi_def, zQa_def, zQv_def, nI00, nI10, nI11, nI01, true_or, or_true, false_or, or_false, eq_self, true_implies, false_implies, not_true_eq_false, not_false_eq_true, zc9, zc1, zc2, zc3, zc1000, nI_m9, nI_add, pk_mul, ix_nI, vpT, zk_zpi, zn_zpi, zr_zpi, zk_zpa, zn_zpa, zr_zpa, zsz_zpi, zsz_zpa, zi_zpa, zpi_pa, zpa_zpa, true_and, and_true, and_self, h0, h0']
            exact RS_fail (by omega) hB hq
          · intro a r' h0 hc h' hB'
            rw [hc] at hq
            try simp (disch := omega) only [↓wX8_run_0, ↓wX8_run_1, ↓wX8_run_4, ↓wX8_run_5, ↓wX8_run_6, ↓wX8_run_7, ↓wX8_run_8, ↓wX8_run_9, ↓wX8_run_12, ↓wX8_run_15, ↓wX8_run_16, ↓wX8_run_19, ↓wX8_run_20, ↓wX8_run_23, ↓wX8_run_26, ↓wX8_run_27, ↓wX8_run_30, ↓wX8_run_33, ↓wX8_run_36, ↓wX8_run_37, ↓wX8_run_40, ↓wX8_run_43, ↓wX8_run_44, ↓wX8_run_45, ↓wX8_run_48, ↓wX8_run_51, ↓wX8_run_53, ↓wX8_run_54, ↓wX8_run_57, ↓wX8_run_59, ↓wX8_run_62, ↓wX8_run_65, ↓wX8_run_68, ↓wX8_run_69, ↓wX8_run_72, ↓wX8_run_75, ↓wX8_run_76, ↓wX8_run_77, ↓wX8_run_80, ↓wX8_run_81, ↓wX8_run_83, ↓wX8_run_86, ↓wX8_run_89, ↓wX8_run_92, ↓wX8_run_93, ↓wX8_run_94, ↓wX8_run_95, ↓wX8_run_98, ↓wX8_run_101, ↓wX8_run_104, ↓wX8_run_105, ↓wX8_run_108, ↓wX8_run_109, ↓wX8_run_112, ↓wX8_run_113, ↓wX8_run_116, ↓wX8_run_119, ↓wX8_run_122, ↓wX8_run_123, ↓wX8_run_124, ↓wX8_run_125, ↓wX8_run_128, ↓wX8_run_129, ↓wX8_run_132, ↓wX8_run_133, ↓wX8_run_134, ↓wX8_run_137, zQi_def, zQa_def, zQv_def, nI00, nI10, nI11, nI01, true_or, or_true, false_or, or_false, eq_self, true_implies, false_implies, not_true_eq_false, not_false_eq_true, zc9, zc1, zc2, zc3, zc1000, nI_m9, nI_add, pk_mul, ix_nI, vpT, zk_zpi, zn_zpi, zr_zpi, zk_zpa, zn_zpa, zr_zpa, zsz_zpi, zsz_zpa, zi_zpa, zpi_pa, zpa_zpa, true_and, and_true, and_self, h0]
            exact ih _ (cm + 1) o _ r' h' _ _ (by omega) g3.2.2.1 (by omega) hB' (fun hP => hq ⟨hI, fun a' r'' _ _ _ q => by cases q; exact ⟨h0, hP⟩⟩)
        · rw [if_pos ok] at hq
          have hq := hq ⟨hI, fun _ _ _ _ q => absurd q ok⟩
          rw [zb_f ok]
          try simp (disch := omega) only [↓wX8_run_0, ↓wX8_run_1, ↓wX8_run_4, ↓wX8_run_5, ↓wX8_run_6, ↓wX8_run_7, ↓wX8_run_8, ↓wX8_run_9, ↓wX8_run_12, ↓wX8_run_15, ↓wX8_run_16, ↓wX8_run_19, ↓wX8_run_20, ↓wX8_run_23, ↓wX8_run_26, ↓wX8_run_27, ↓wX8_run_30, ↓wX8_run_33, ↓wX8_run_36, ↓wX8_run_37, ↓wX8_run_40, ↓wX8_run_43, ↓wX8_run_44, ↓wX8_run_45, ↓wX8_run_48, ↓wX8_run_51, ↓wX8_run_53, ↓wX8_run_54, ↓wX8_run_57, ↓wX8_run_59, ↓wX8_run_62, ↓wX8_run_65, ↓wX8_run_68, ↓wX8_run_69, ↓wX8_run_72, ↓wX8_run_75, ↓wX8_run_76, ↓wX8_run_77, ↓wX8_run_80, ↓wX8_run_81, ↓wX8_run_83, ↓wX8_run_86, ↓wX8_run_89, ↓wX8_run_92, ↓wX8_run_93, ↓wX8_run_94, ↓wX8_run_95, ↓wX8_run_98, ↓wX8_run_101, ↓wX8_run_104, ↓wX8_run_105, ↓wX8_run_108, ↓wX8_run_109, ↓wX8_run_112, ↓wX8_run_113, ↓wX8_run_116, ↓wX8_run_119, ↓wX8_run_122, ↓wX8_run_123, ↓wX8_run_124, ↓wX8_run_125, ↓wX8_run_128, ↓wX8_run_129, ↓wX8_run_132, ↓wX8_run_133, ↓wX8_run_134, ↓wX8_run_137, zQi_def, zQa_def, zQv_def, nI00, nI10, nI11, nI01, true_or, or_true, false_or, or_false, eq_self, true_implies, false_implies, not_true_eq_false, not_false_eq_true, zc9, zc1, zc2, zc3, zc1000, nI_m9, nI_add, pk_mul, ix_nI, vpT, zk_zpi, zn_zpi, zr_zpi, zk_zpa, zn_zpa, zr_zpa, zsz_zpi, zsz_zpa, zi_zpa, zpi_pa, zpa_zpa, true_and, and_true, and_self, a1, a2, a3, a4]
          exact RS_fail (by omega) hB hq
    · rw [if_pos hs] at hq
      have hq := hq ⟨hI, fun _ _ q => absurd q hs⟩
      rw [zb_f hs]
      try simp (disch := omega) only [↓wX8_run_0, ↓wX8_run_1, ↓wX8_run_4, ↓wX8_run_5, ↓wX8_run_6, ↓wX8_run_7, ↓wX8_run_8, ↓wX8_run_9, ↓wX8_run_12, ↓wX8_run_15, ↓wX8_run_16, ↓wX8_run_19, ↓wX8_run_20, ↓wX8_run_23, ↓wX8_run_26, ↓wX8_run_27, ↓wX8_run_30, ↓wX8_run_33, ↓wX8_run_36, ↓wX8_run_37, ↓wX8_run_40, ↓wX8_run_43, ↓wX8_run_44, ↓wX8_run_45, ↓wX8_run_48, ↓wX8_run_51, ↓wX8_run_53, ↓wX8_run_54, ↓wX8_run_57, ↓wX8_run_59, ↓wX8_run_62, ↓wX8_run_65, ↓wX8_run_68, ↓wX8_run_69, ↓wX8_run_72, ↓wX8_run_75, ↓wX8_run_76, ↓wX8_run_77, ↓wX8_run_80, ↓wX8_run_81, ↓wX8_run_83, ↓wX8_run_86, ↓wX8_run_89, ↓wX8_run_92, ↓wX8_run_93, ↓wX8_run_94, ↓wX8_run_95, ↓wX8_run_98, ↓wX8_run_101, ↓wX8_run_104, ↓wX8_run_105, ↓wX8_run_108, ↓wX8_run_109, ↓wX8_run_112, ↓wX8_run_113, ↓wX8_run_116, ↓wX8_run_119, ↓wX8_run_122, ↓wX8_run_123, ↓wX8_run_124, ↓wX8_run_125, ↓wX8_run_128, ↓wX8_run_129, ↓wX8_run_132, ↓wX8_run_133, ↓wX8_run_134, ↓wX8_run_137, zQi_def, zQa_def, zQv_def, nI00, nI10, nI11, nI01, true_or, or_true, false_or, or_false, eq_self, true_implies, false_implies, not_true_eq_false, not_false_eq_true, zc9, zc1, zc2, zc3, zc1000, nI_m9, nI_add, pk_mul, ix_nI, vpT, zk_zpi, zn_zpi, zr_zpi, zk_zpa, zn_zpa, zr_zpa, zsz_zpi, zsz_zpa, zi_zpa, zpi_pa, zpa_zpa, true_and, and_true, and_self, a1, a2, a3, z00]
      exact l_rsucc (by omega) hB hq
theorem pb_run {E : zE} {Q : Int32 → zH → Prop} {x s L : Nat} {h : zH} {F : Nat → Nat → Int32} (hC : CI h x F s L) (hq : PR (F 5) L (L + 1) 0 (F 1) → UR Q h x F s L (pg (F 5) L (L + 1) 0 0 (F 1))) : zMi E mX8_run [.inr x] h Q := by
  obtain ⟨hX, ⟨o, hH⟩, hT⟩ := hC
  have xk := hX.1.1
  have hz := hX.2.2.2.2.2.2
  (refine eX8_run 200 ?_; simp (disch := omega) only [↓wX8_run_0, ↓wX8_run_1, ↓wX8_run_4, ↓wX8_run_5, ↓wX8_run_6, ↓wX8_run_7, ↓wX8_run_8, ↓wX8_run_9, ↓wX8_run_12, ↓wX8_run_15, ↓wX8_run_16, ↓wX8_run_19, ↓wX8_run_20, ↓wX8_run_23, ↓wX8_run_26, ↓wX8_run_27, ↓wX8_run_30, ↓wX8_run_33, ↓wX8_run_36, ↓wX8_run_37, ↓wX8_run_40, ↓wX8_run_43, ↓wX8_run_44, ↓wX8_run_45, ↓wX8_run_48, ↓wX8_run_51, ↓wX8_run_53, ↓wX8_run_54, ↓wX8_run_57, ↓wX8_run_59, ↓wX8_run_62, ↓wX8_run_65, ↓wX8_run_68, ↓wX8_run_69, ↓wX8_run_72, ↓wX8_run_75, ↓wX8_run_76, ↓wX8_run_77, ↓wX8_run_80, ↓wX8_run_81, ↓wX8_run_83, ↓wX8_run_86, ↓wX8_run_89, ↓wX8_run_92, ↓wX8_run_93, ↓wX8_run_94, ↓wX8_run_95, ↓wX8_run_98, ↓wX8_run_101, ↓wX8_run_104, ↓wX8_run_105, ↓wX8_run_108, ↓wX8_run_109, ↓wX8_run_112, ↓wX8_run_113, ↓wX8_run_116, ↓wX8_run_119, ↓wX8_run_122, ↓wX8_run_123, ↓wX8_run_124, ↓wX8_run_125, ↓wX8_run_128, ↓wX8_run_129, ↓wX8_run_132, ↓wX8_run_133, ↓wX8_run_134, ↓wX8_run_137, zQi_def, zQa_def, zQv_def, nI00, nI10, nI11, nI01, true_or, or_true, false_or, or_false, eq_self, true_implies, false_implies, not_true_eq_false, not_false_eq_true, zc9, zc1, zc2, zc3, zc1000, nI_m9, nI_add, pk_mul, ix_nI, vpT, zk_zpi, zn_zpi, zr_zpi, zk_zpa, zn_zpa, zr_zpa, zsz_zpi, zsz_zpa, zi_zpa, zpi_pa, zpa_zpa, true_and, and_true, and_self, xk])
  refine v_prepare hX hH ?_
  intro h1 z1 o1 p1 s1
  obtain ⟨X1, H1, T1⟩ := pre_keep hX hH hT o1 p1
  obtain ⟨⟨a1, a2, a3, a4, a5⟩, -, ⟨c1, c2, c3, c4, c5, c6, c7⟩, -⟩ := id X1
  have hz1 := X1.2.2.2.2.2.2
  try simp (disch := omega) only [↓wX8_run_0, ↓wX8_run_1, ↓wX8_run_4, ↓wX8_run_5, ↓wX8_run_6, ↓wX8_run_7, ↓wX8_run_8, ↓wX8_run_9, ↓wX8_run_12, ↓wX8_run_15, ↓wX8_run_16, ↓wX8_run_19, ↓wX8_run_20, ↓wX8_run_23, ↓wX8_run_26, ↓wX8_run_27, ↓wX8_run_30, ↓wX8_run_33, ↓wX8_run_36, ↓wX8_run_37, ↓wX8_run_40, ↓wX8_run_43, ↓wX8_run_44, ↓wX8_run_45, ↓wX8_run_48, ↓wX8_run_51, ↓wX8_run_53, ↓wX8_run_54, ↓wX8_run_57, ↓wX8_run_59, ↓wX8_run_62, ↓wX8_run_65, ↓wX8_run_68, ↓wX8_run_69, ↓wX8_run_72, ↓wX8_run_75, ↓wX8_run_76, ↓wX8_run_77, ↓wX8_run_80, ↓wX8_run_81, ↓wX8_run_83, ↓wX8_run_86, ↓wX8_run_89, ↓wX8_run_92, ↓wX8_run_93, ↓wX8_run_94, ↓wX8_run_95, ↓wX8_run_98, ↓wX8_run_101, ↓wX8_run_104, ↓wX8_run_105, ↓wX8_run_108, ↓wX8_run_109, ↓wX8_run_112, ↓wX8_run_113, ↓wX8_run_116, ↓wX8_run_119, ↓wX8_run_122, ↓wX8_run_123, ↓wX8_run_124, ↓wX8_run_125, ↓wX8_run_128, ↓wX8_run_129, ↓wX8_run_132, ↓wX8_run_133, ↓wX8_run_134, ↓wX8_run_137, zQi_def, zQa_def, zQv_def, nI00, nI10, nI11, nI01, true_or, or_true, false_or, or_false, eq_self, true_implies, false_implies, not_true_eq_false, not_false_eq_true, zc9, zc1, zc2, zc3, zc1000, nI_m9, nI_add, pk_mul, ix_nI, vpT, zk_zpi, zn_zpi, zr_zpi, zk_zpa, zn_zpa, zr_zpa, zsz_zpi, zsz_zpa, zi_zpa, zpi_pa, zpa_zpa, true_and, and_true, and_self, a1, a4, c1]
  refine eX5_rewind 200 ?_
  try simp (disch := omega) only [↓wX5_rewind_0, ↓wX5_rewind_1, ↓wX5_rewind_2, ↓wX5_rewind_5, ↓wX8_run_0, ↓wX8_run_1, ↓wX8_run_4, ↓wX8_run_5, ↓wX8_run_6, ↓wX8_run_7, ↓wX8_run_8, ↓wX8_run_9, ↓wX8_run_12, ↓wX8_run_15, ↓wX8_run_16, ↓wX8_run_19, ↓wX8_run_20, ↓wX8_run_23, ↓wX8_run_26, ↓wX8_run_27, ↓wX8_run_30, ↓wX8_run_33, ↓wX8_run_36, ↓wX8_run_37, ↓wX8_run_40, ↓wX8_run_43, ↓wX8_run_44, ↓wX8_run_45, ↓wX8_run_48, ↓wX8_run_51, ↓wX8_run_53, ↓wX8_run_54, ↓wX8_run_57, ↓wX8_run_59, ↓wX8_run_62, ↓wX8_run_65, ↓wX8_run_68, ↓wX8_run_69, ↓wX8_run_72, ↓wX8_run_75, ↓wX8_run_76, ↓wX8_run_77, ↓wX8_run_80, ↓wX8_run_81, ↓wX8_run_83, ↓wX8_run_86, ↓wX8_run_89, ↓wX8_run_92, ↓wX8_run_93, ↓wX8_run_94, ↓wX8_run_95, ↓wX8_run_98, ↓wX8_run_101, ↓wX8_run_104, ↓wX8_run_105, ↓wX8_run_108, ↓wX8_run_109, ↓wX8_run_112, ↓wX8_run_113, ↓wX8_run_116, ↓wX8_run_119, ↓wX8_run_122, ↓wX8_run_123, ↓wX8_run_124, ↓wX8_run_125, ↓wX8_run_128, ↓wX8_run_129, ↓wX8_run_132, ↓wX8_run_133, ↓wX8_run_134, ↓wX8_run_137, zQi_def, zQa_def, zQv_def, nI00, nI10, nI11, nI01, true_or, or_true, false_or, or_false, eq_self, true_implies, false_implies, not_true_eq_false, not_false_eq_true, zc9, zc1, zc2, zc3, zc1000, nI_m9, nI_add, pk_mul, ix_nI, vpT, zk_zpi, zn_zpi, zr_zpi, zk_zpa, zn_zpa, zr_zpa, zsz_zpi, zsz_zpa, zi_zpa, zpi_pa, zpa_zpa, true_and, and_true, and_self, a1, a4, c1]
  have O2 := OUT_zpa h1 (x + 304) (zup (zi h1 (x + 304)) 4 (nI 0))
  have ho6 := H1.2.1
  refine l_run T1.2.1 (L + 1) 0 0 o _ (F 1) _ _ _ (by omega) (by omega) (by omega) ⟨XS_i X1 (Or.inr (by omega)), HI_out X1 H1 O2 (by omega) (by omega), ⟨?_, T1.2.1, fun k hk => ?_⟩, SR_out s1 O2 (by unfold spA; omega) (by unfold spA; omega) (by omega), OUT_tr (OUT_mono o1 (by unfold spA; omega) (by unfold spA; omega)) (OUT_mono O2 (by omega) (by omega)), rfl, ?_⟩ hq
  · rw [zi_zpa, zup_ne (by omega)]; exact T1.1
  · rw [zi_zpaN _ _ (by omega)]; exact T1.2.2 k hk
  · rw [zi_zpa, zup_eq rfl]
