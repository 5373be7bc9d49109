theorem pD_keep {r : Nat → Int32} {nr nk n td : Nat} (hI : RI r nr nk n td) (htd : td < 199) : ∃ n', n' ≤ n ∧ RI (pD r nr nk n).1 nr nk n' (td + 1) := by
  obtain ⟨i1, i2, i3, i0, hb, hT, hK⟩ := hI
  have hG : GI r n nr nk td := ⟨i3, i2, i0, ⟨htd, hb.2.1, hb.2.2⟩, hT⟩
  obtain ⟨n', hn', hG', hK', h1'⟩ := gT_keep (nk := nk) (nr := nr) (td := td) n (zD nr r 0) 0 n (nI 0) (nI 0) (by omega) (GI_of (fun k hk => zD_at (by omega)) hG) (KP_of (fun k hk => zD_at (by omega)) hK) (by rw [zD_at (by omega)]; exact i1)
  have e : ∀ k, (k ≠ 0 ∧ k ≠ 6 ∧ k < 221) ∨ 337 ≤ k ∨ (∃ u, k = 281 + 7 * u + 1) → (pD r nr nk n).1 k = (gT nk n (zD nr r 0) 0 n (nI 0) (nI 0)).1 k := by
    intro k hk
    unfold pD
    simp only
    rcases hk with hk | hk | ⟨u, hk⟩
    · rw [zup_ne (by omega), zD_at (by omega), rK_at (by omega) (by omega), eD_at (by omega) (by omega), zup_ne (by omega)]
    · rw [zup_ne (by omega), zD_at (by omega), rK_at (by omega) (by omega), eD_at (by omega) (by omega), zup_ne (by omega)]
    · rw [zup_ne (by omega), zD_at (by omega), rK_at (Or.inr (Or.inr ⟨u, hk⟩)) (by omega), eD_at (by omega) (by omega), zup_ne (by omega)]
  refine ⟨n', hn', (e _ (by omega)).trans h1', (e _ (by omega)).trans hG'.2.1, (e _ (by omega)).trans hG'.1, ?_, ⟨by omega, by omega, hb.2.2⟩, fun u hu => TWc (fun f hf => e _ (by omega)) (hG'.2.2.2.2 u hu), KP_of (fun k hk => e _ (Or.inr (Or.inr ⟨k, rfl⟩))) hK'⟩
  unfold pD
  simp only
  rw [zup_eq rfl, zD_at (by omega), rK_at (by omega) (by omega), eD_at (by omega) (by omega), zup_ne (by omega), hG'.2.2.1, nI_add]
/-- days pass -/
def pN (nr nk : Nat) : Nat → (Nat → Int32) → Int32 → (Nat → Int32) × Int32
  | 0, r, mi => (r, mi)
  | d + 1, r, mi => pN nr nk d (pD r nr nk (ixx (r 3))).1 (mi + (pD r nr nk (ixx (r 3))).2.1)
theorem l_passNow {E : zE} {Q : Int32 → zH → Prop} {m nr nk D : Nat} {h : zH} (hm : MS h m) (hD : D ≤ 60) {k' n' : Nat} (d : Nat) : ∀ (F : Nat → Nat → Int32) (i n td : Nat) (mi : Int32), i + d = D → td + d ≤ 199 → RI (F 1) nr nk n td →
    (∀ tg, Q (pN nr nk d (F 1) mi).2 (MST h m (zup (zup F 1 (pN nr nk d (F 1) mi).1) 0 (zup (F 0) 9 tg)))) →
    zJ E mX9_passNow (zQi Q) 4 [some (.inr m), some (.inl (nI D)), some (.inl mi), some (.inl (nI i))] [] (MST h m F) k' n' := by
  obtain ⟨mk, ⟨mr1, mr2, mr3, mr4, mr6, mr8⟩, ⟨mk1, mk2, mk3, mk4, mk5, mk6⟩, ⟨mn1, mn2, mn3, mn4, mn5, mn6⟩⟩ := id hm
  induction d with
  | zero =>
    intro F i n td mi hi htd hI hq
    obtain rfl : i = D := by omega
    have hq := hq (F 0 9)
    simp only [pN, zup_self] at hq
    (refine jX9_passNow 200 ?_; simp (disch := omega) only [↓wX9_passNow_0, ↓wX9_passNow_1, ↓wX9_passNow_2, ↓wX9_passNow_3, ↓wX9_passNow_4, ↓wX9_passNow_5, ↓wX9_passNow_6, ↓wX9_passNow_9, ↓wX9_passNow_10, ↓wX9_passNow_11, ↓wX9_passNow_12, ↓wX9_passNow_15, ↓wX9_passNow_18, ↓wX9_passNow_19, ↓wX9_passNow_20, ↓wX9_passNow_23, ↓wX9_passNow_26, ↓wX9_passNow_27, zQi_def, zQa_def, zQv_def, nI00, nI10, nI11, nI01, true_or, or_true, false_or, or_false, eq_self, true_implies, false_implies, not_true_eq_false, not_false_eq_true, zc9, zc1, zc2, zc3, zc1000, nI_m9, nI_add, pk_mul, ix_nI, vpT, zk_zpi, zn_zpi, zr_zpi, zk_zpa, zn_zpa, zr_zpa, zsz_zpi, zsz_zpa, zi_zpa, zpi_pa, zpa_zpa, true_and, and_true, and_self, zk_MST, zn_MST, zr_MST, zsz_MST, zi_MST, zi_MST0, zpa_MST, zpa_MST0, zup_eq, zup_ne, mk, mr1, mr2, mr3, mr4, mr6, mr8, mk1, mk2, mk3, mk4, mk5, mk6, mn1, mn2, mn3, mn4, mn5, mn6, nI_leI, Nat.le_refl])
    exact hq
  | succ d ih =>
    intro F i n td mi hi htd hI hq
    obtain ⟨i1, i2, i3, i0, hb, hT, hK⟩ := id hI
    have hle : ¬ D ≤ i := by omega
    simp (disch := omega) only [pN, i3, ixx_nI] at hq
    obtain ⟨n', hn', hI'⟩ := pD_keep hI (by omega)
    (refine jX9_passNow 200 ?_; simp (disch := omega) only [↓wX9_passNow_0, ↓wX9_passNow_1, ↓wX9_passNow_2, ↓wX9_passNow_3, ↓wX9_passNow_4, ↓wX9_passNow_5, ↓wX9_passNow_6, ↓wX9_passNow_9, ↓wX9_passNow_10, ↓wX9_passNow_11, ↓wX9_passNow_12, ↓wX9_passNow_15, ↓wX9_passNow_18, ↓wX9_passNow_19, ↓wX9_passNow_20, ↓wX9_passNow_23, ↓wX9_passNow_26, ↓wX9_passNow_27, zQi_def, zQa_def, zQv_def, nI00, nI10, nI11, nI01, true_or, or_true, false_or, or_false, eq_self, true_implies, false_implies, not_true_eq_false, not_false_eq_true, zc9, zc1, zc2, zc3, zc1000, nI_m9, nI_add, pk_mul, ix_nI, vpT, zk_zpi, zn_zpi, zr_zpi, zk_zpa, zn_zpa, zr_zpa, zsz_zpi, zsz_zpa, zi_zpa, zpi_pa, zpa_zpa, true_and, and_true, and_self, zk_MST, zn_MST, zr_MST, zsz_MST, zi_MST, zi_MST0, zpa_MST, zpa_MST0, zup_eq, zup_ne, mk, mr1, mr2, mr3, mr4, mr6, mr8, mk1, mk2, mk3, mk4, mk5, mk6, mn1, mn2, mn3, mn4, mn5, mn6, nI_leI, hle])
    refine c_passDay (n := n) (nr := nr) (nk := nk) (td := td) hm (by omega) ⟨i3, i2, i0, ⟨by omega, hb.2.1, hb.2.2⟩, hT⟩ hK i1 ?_
    try simp (disch := omega) only [nI00, nI10, nI11, nI01, true_or, or_true, false_or, or_false, eq_self, true_implies, false_implies, not_true_eq_false, not_false_eq_true, zc9, zc1, zc2, zc3, zc1000, nI_m9, nI_add, pk_mul, ix_nI, vpT, zk_zpi, zn_zpi, zr_zpi, zk_zpa, zn_zpa, zr_zpa, zsz_zpi, zsz_zpa, zi_zpa, zpi_pa, zpa_zpa, true_and, and_true, and_self, zk_MST, zn_MST, zr_MST, zsz_MST, zi_MST, zi_MST0, zpa_MST, zpa_MST0, zup_eq, zup_ne]
    refine ih _ (i + 1) n' (td + 1) _ (by omega) (by omega) ?_ ?_
    · simp (disch := omega) only [zup_eq, zup_ne]; exact hI'
    · intro tg
      rw [gfin (F := F) (F' := zup (zup F 1 (pD (F 1) nr nk n).1) 0 (zup (F 0) 9 (pD (F 1) nr nk n).2.2)) (fun q q1 q2 => by simp (disch := omega) only [zup_ne]) (fun q q1 => by simp (disch := omega) only [zup_eq, zup_ne])]
      simp (disch := omega) only [zup_eq, zup_ne]
      exact hq tg
theorem d_passNow {E : zE} {Q : Int32 → zH → Prop} {m nr nk n td d : Nat} {h : zH} {F : Nat → Nat → Int32} (hm : MS h m) (hI : RI (F 1) nr nk n td) (hd : d ≤ 60) (htd : td + d ≤ 199)
    (hq : ∀ tg, Q (pN nr nk d (F 1) (nI 0)).2 (MST h m (zup (zup F 1 (pN nr nk d (F 1) (nI 0)).1) 0 (zup (F 0) 9 tg)))) : zMi E mX9_passNow [.inr m, .inl (nI d)] (MST h m F) Q := by
  (refine eX9_passNow 200 ?_; simp (disch := omega) only [↓wX9_passNow_0, ↓wX9_passNow_1, ↓wX9_passNow_2, ↓wX9_passNow_3, ↓wX9_passNow_4, ↓wX9_passNow_5, ↓wX9_passNow_6, ↓wX9_passNow_9, ↓wX9_passNow_10, ↓wX9_passNow_11, ↓wX9_passNow_12, ↓wX9_passNow_15, ↓wX9_passNow_18, ↓wX9_passNow_19, ↓wX9_passNow_20, ↓wX9_passNow_23, ↓wX9_passNow_26, ↓wX9_passNow_27, zQi_def, zQa_def, zQv_def, nI00, nI10, nI11, nI01, true_or, or_true, false_or, or_false, eq_self, true_implies, false_implies, not_true_eq_false, not_false_eq_true, zc9, zc1, zc2, zc3, zc1000, nI_m9, nI_add, pk_mul, ix_nI, vpT, zk_zpi, zn_zpi, zr_zpi, zk_zpa, zn_zpa, zr_zpa, zsz_zpi, zsz_zpa, zi_zpa, zpi_pa, zpa_zpa, true_and, and_true, and_self])
  exact l_passNow hm hd d F 0 n td _ (by omega) htd hI hq
def AFT (F F' : Nat → Nat → Int32) (s : Nat) (r : Nat → Int32) : Prop := F' 1 = r ∧ F' 4 = svF F s ∧ F' 0 5 = nI (svN s) ∧ F' 0 0 = nI 0 ∧ F' 0 7 = F 0 7 ∧ F' 5 = F 5
def SME (F F' : Nat → Nat → Int32) : Prop := F' 1 = F 1 ∧ F' 4 = F 4 ∧ F' 0 5 = F 0 5 ∧ F' 0 0 = nI 0 ∧ F' 0 7 = F 0 7 ∧ F' 5 = F 5
def EFO (F F' : Nat → Nat → Int32) (s : Nat) (o : Option (Nat → Int32)) : Prop := match o with
  | none => SME F F'
  | some r => AFT F F' s r
theorem actF_ne {F : Nat → Nat → Int32} {s j : Nat} (h0 : j ≠ 0) (h4 : j ≠ 4) : actF F s j = F j := by unfold actF; rw [zup_ne h0, zup_ne h4]
def MI (F : Nat → Nat → Int32) (s L : Nat) : Prop := F 0 0 = nI 0 ∧ F 0 5 = nI s ∧ s ≤ 5 ∧ F 0 7 = nI L ∧ L ≤ 140
theorem thr_id {F : Nat → Nat → Int32} (hz : F 0 0 = nI 0) : zup F 0 (zup (F 0) 0 (nI 0)) = F := by rw [← hz, zup_self, zup_self]
