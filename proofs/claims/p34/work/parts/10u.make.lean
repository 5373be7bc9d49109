/-! The class: a new object. -/
theorem SB_SAME {h h' : zH} {a b c : Nat} (hS : SB h h' c) (hb : b ≤ c) : SAME h h' a b := fun d _ hd => hS d (by omega)
theorem NW_tr {h h' : zH} {w : Nat} (hN : NW h w) (hS : SAME h h' w (w + 41)) : NW h' w := by
  obtain ⟨n1, n2, n3, n4, n5, n6, n7⟩ := hN
  refine ⟨WS_tr n1 (fun c c1 c2 => ?_), fun k hk => ?_, fun f hf => ?_, fun k hk => ?_, fun k hk => ?_, fun i hi => ?_, fun k hk => ?_⟩
  · obtain ⟨s1, s2, s3, s4⟩ := hS c (by omega) (by omega)
    exact ⟨s1, s2, fun _ => s4⟩
  · rw [(hS (w + 5) (by omega) (by omega)).2.2.2]; exact n2 k hk
  · rw [(hS w (by omega) (by omega)).2.2.1]; exact n3 f hf
  · rw [(hS (w + 1) (by omega) (by omega)).2.2.1]; exact n4 k hk
  · rw [(hS (w + 2) (by omega) (by omega)).2.2.1]; exact n5 k hk
  · obtain ⟨m1, m2, m3⟩ := n6 i hi
    rw [(hS (w + (6 + 5 * i)) (by omega) (by omega)).2.2.1]
    refine ⟨m1, m2, fun s hs f => ?_⟩
    rw [(hS (w + (8 + 5 * i + s)) (by omega) (by omega)).2.2.1]
    exact m3 s hs f
  · rw [(hS (w + (21 + k)) (by omega) (by omega)).2.2.1]; exact n7 k hk
def NSt (h : zH) (a : Nat) : Prop := zk h a = 4 ∧ zr h a 0 = a + 1 ∧ zr h a 1 = a + 42 ∧ zk h (a + 42) = 27 ∧ zn h (a + 42) = 2 ∧ (∀ j, j < 2 → zr h (a + 42) j = 0) ∧ NW h (a + 1)
theorem NSt_tr {h h' : zH} {a : Nat} (hN : NSt h a) (hS : SAME h h' a (a + 43)) : NSt h' a := by
  obtain ⟨n1, n2, n3, n4, n5, n6, n7⟩ := hN
  obtain ⟨s1, s2, s3, s4⟩ := hS a (by omega) (by omega)
  obtain ⟨t1, t2, t3, t4⟩ := hS (a + 42) (by omega) (by omega)
  exact ⟨by rw [s1]; exact n1, by rw [s4]; exact n2, by rw [s4]; exact n3, by rw [t1]; exact n4, by rw [t2]; exact n5, fun j hj => by rw [t4]; exact n6 j hj, NW_tr n7 (fun c c1 c2 => hS c (by omega) (by omega))⟩
theorem SB_tr {h h' h'' : zH} {a b : Nat} (h1 : SB h h' a) (h2 : SB h' h'' b) (hab : a ≤ b) : SB h h'' a := fun c hc => by
  obtain ⟨a1, a2, a3, a4⟩ := h1 c hc
  obtain ⟨b1, b2, b3, b4⟩ := h2 c (by omega)
  exact ⟨b1.trans a1, b2.trans a2, b3.trans a3, b4.trans a4⟩
theorem cl2 : (nI 2).toNatClampNeg = 2 := by decide
theorem cl6 : (nI 6).toNatClampNeg = 6 := by decide
theorem cl140 : (nI 140).toNatClampNeg = 140 := by decide
theorem cl4 : (nI 4).toNatClampNeg = 4 := by decide
theorem v_init3 {E : zE} {Q : zH → Prop} {a : Nat} {h : zH} (hz : zsz h = a + 1) (ha0 : a ≠ 0) (hk : zk h a = 4) (hq : ∀ h', zsz h' = a + 43 → SB h h' a → zi h' a = zi h a → NSt h' a → Q h') : zMv E mX3_init [.inr a] h Q := by
  (refine eX3_init 200 ?_; simp (disch := omega) only [↓wX3_init_0, ↓wX3_init_1, ↓wX3_init_4, ↓wX3_init_5, ↓wX3_init_8, ↓wX3_init_9, ↓wX3_init_12, ↓wX3_init_15, ↓wX3_init_16, ↓wX3_init_17, ↓wX3_init_20, ↓wX3_init_23, zQi_def, zQa_def, zQv_def, nI00, nI10, nI11, nI01, true_or, or_true, false_or, or_false, eq_self, true_implies, false_implies, not_true_eq_false, not_false_eq_true, zc9, zc1, zc2, zc3, zc1000, nI_m9, nI_add, pk_mul, ix_nI, vpT, zk_zpi, zn_zpi, zr_zpi, zk_zpa, zn_zpa, zr_zpa, zsz_zpi, zsz_zpa, zi_zpa, zpi_pa, zpa_zpa, true_and, and_true, and_self, hk])
  simp (disch := (first | omega | (simp only [zsz_new, zsz_zpr, zsz_zpa, zsz_zpi]; omega))) only [nI00, nI10, nI11, nI01, true_or, or_true, false_or, or_false, eq_self, true_implies, false_implies, not_true_eq_false, not_false_eq_true, zc9, zc1, zc2, zc3, zc1000, nI_m9, nI_add, pk_mul, ix_nI, vpT, zk_zpi, zn_zpi, zr_zpi, zk_zpa, zn_zpa, zr_zpa, zsz_zpi, zsz_zpa, zi_zpa, zpi_pa, zpa_zpa, true_and, and_true, and_self, zk_new, zk_newE, zn_new, zn_newE, zi_new, zi_newE, zr_new, zr_newE, zsz_new, zk_zpr, zn_zpr, zi_zpr, zsz_zpr, zr_zprE, zr_zprN, zr_zprF, zr_zpa, zk_zpa, zn_zpa, zi_zpa, zi_zpaN, zsz_zpa, n3c, n3n, cl2, nI_nneg, not_false_eq_true, hk, hz]
  refine ⟨ha0, ⟨by omega, by omega⟩, ⟨by omega, by omega⟩, v_init7 (by rw [zsz_new]; omega) (by omega) (by rw [zk_newE (by omega)]) (fun f => by rw [zi_newE (by omega)]) ?_⟩
  intro h' z' S' N'
  obtain ⟨t1, t2, t3, t4⟩ := S' a (by omega)
  rw [zk_new (by omega)] at t1
  rw [zn_new (by omega)] at t2
  rw [zi_new (by omega)] at t3
  rw [zr_new (by omega)] at t4
  have ka : zk h' a = 4 := t1.trans hk
  refine ⟨ka, ⟨by omega, by omega, by omega⟩, by simp (disch := (first | omega | (simp only [zsz_new, zsz_zpr, zsz_zpa, zsz_zpi]; omega))) only [zk_new, zk_newE, zn_new, zn_newE, zi_new, zi_newE, zr_new, zr_newE, zsz_new, zk_zpr, zn_zpr, zi_zpr, zsz_zpr, zr_zprE, zr_zprN, zr_zprF, zr_zpa, zk_zpa, zn_zpa, zi_zpa, zi_zpaN, zsz_zpa]; exact ka, ?_⟩
  refine hq _ ?_ ?_ ?_ ⟨?_, ?_, ?_, ?_, ?_, ?_, NW_tr N' ?_⟩
  · simp (disch := (first | omega | (simp only [zsz_new, zsz_zpr, zsz_zpa, zsz_zpi]; omega))) only [zk_new, zk_newE, zn_new, zn_newE, zi_new, zi_newE, zr_new, zr_newE, zsz_new, zk_zpr, zn_zpr, zi_zpr, zsz_zpr, zr_zprE, zr_zprN, zr_zprF, zr_zpa, zk_zpa, zn_zpa, zi_zpa, zi_zpaN, zsz_zpa]; omega
  · intro b hb
    obtain ⟨b1, b2, b3, b4⟩ := S' b (by omega)
    rw [zk_new (by omega)] at b1
    rw [zn_new (by omega)] at b2
    rw [zi_new (by omega)] at b3
    rw [zr_new (by omega)] at b4
    simp (disch := (first | omega | (simp only [zsz_new, zsz_zpr, zsz_zpa, zsz_zpi]; omega))) only [zk_new, zk_newE, zn_new, zn_newE, zi_new, zi_newE, zr_new, zr_newE, zsz_new, zk_zpr, zn_zpr, zi_zpr, zsz_zpr, zr_zprE, zr_zprN, zr_zprF, zr_zpa, zk_zpa, zn_zpa, zi_zpa, zi_zpaN, zsz_zpa]
    exact ⟨b1, b2, b3, b4⟩
  · simp (disch := (first | omega | (simp only [zsz_new, zsz_zpr, zsz_zpa, zsz_zpi]; omega))) only [zk_new, zk_newE, zn_new, zn_newE, zi_new, zi_newE, zr_new, zr_newE, zsz_new, zk_zpr, zn_zpr, zi_zpr, zsz_zpr, zr_zprE, zr_zprN, zr_zprF, zr_zpa, zk_zpa, zn_zpa, zi_zpa, zi_zpaN, zsz_zpa]; exact t3
  · simp (disch := (first | omega | (simp only [zsz_new, zsz_zpr, zsz_zpa, zsz_zpi]; omega))) only [zk_new, zk_newE, zn_new, zn_newE, zi_new, zi_newE, zr_new, zr_newE, zsz_new, zk_zpr, zn_zpr, zi_zpr, zsz_zpr, zr_zprE, zr_zprN, zr_zprF, zr_zpa, zk_zpa, zn_zpa, zi_zpa, zi_zpaN, zsz_zpa]; exact ka
  · simp (disch := (first | omega | (simp only [zsz_new, zsz_zpr, zsz_zpa, zsz_zpi]; omega))) only [zk_new, zk_newE, zn_new, zn_newE, zi_new, zi_newE, zr_new, zr_newE, zsz_new, zk_zpr, zn_zpr, zi_zpr, zsz_zpr, zr_zprE, zr_zprN, zr_zprF, zr_zpa, zk_zpa, zn_zpa, zi_zpa, zi_zpaN, zsz_zpa]
  · simp (disch := (first | omega | (simp only [zsz_new, zsz_zpr, zsz_zpa, zsz_zpi]; omega))) only [zk_new, zk_newE, zn_new, zn_newE, zi_new, zi_newE, zr_new, zr_newE, zsz_new, zk_zpr, zn_zpr, zi_zpr, zsz_zpr, zr_zprE, zr_zprN, zr_zprF, zr_zpa, zk_zpa, zn_zpa, zi_zpa, zi_zpaN, zsz_zpa]; omega
  · simp (disch := (first | omega | (simp only [zsz_new, zsz_zpr, zsz_zpa, zsz_zpi]; omega))) only [zk_new, zk_newE, zn_new, zn_newE, zi_new, zi_newE, zr_new, zr_newE, zsz_new, zk_zpr, zn_zpr, zi_zpr, zsz_zpr, zr_zprE, zr_zprN, zr_zprF, zr_zpa, zk_zpa, zn_zpa, zi_zpa, zi_zpaN, zsz_zpa]
  · simp (disch := (first | omega | (simp only [zsz_new, zsz_zpr, zsz_zpa, zsz_zpi]; omega))) only [zk_new, zk_newE, zn_new, zn_newE, zi_new, zi_newE, zr_new, zr_newE, zsz_new, zk_zpr, zn_zpr, zi_zpr, zsz_zpr, zr_zprE, zr_zprN, zr_zprF, zr_zpa, zk_zpa, zn_zpa, zi_zpa, zi_zpaN, zsz_zpa]
  · intro j hj
    simp (disch := (first | omega | (simp only [zsz_new, zsz_zpr, zsz_zpa, zsz_zpi]; omega))) only [zk_new, zk_newE, zn_new, zn_newE, zi_new, zi_newE, zr_new, zr_newE, zsz_new, zk_zpr, zn_zpr, zi_zpr, zsz_zpr, zr_zprE, zr_zprN, zr_zprF, zr_zpa, zk_zpa, zn_zpa, zi_zpa, zi_zpaN, zsz_zpa]
  · intro c c1 c2
    refine ⟨?_, ?_, ?_, ?_⟩ <;> simp (disch := (first | omega | (simp only [zsz_new, zsz_zpr, zsz_zpa, zsz_zpi]; omega))) only [zk_new, zk_newE, zn_new, zn_newE, zi_new, zi_newE, zr_new, zr_newE, zsz_new, zk_zpr, zn_zpr, zi_zpr, zsz_zpr, zr_zprE, zr_zprN, zr_zprF, zr_zpa, zk_zpa, zn_zpa, zi_zpa, zi_zpaN, zsz_zpa]
def NHi (h : zH) (a t : Nat) : Prop := zk h a = 1 ∧ zr h a 0 = a + 1 ∧ zk h (a + 1) = 24 ∧ zn h (a + 1) = 6 ∧ ∀ i, i < t → zr h (a + 1) i = a + (2 + 43 * i) ∧ NSt h (a + (2 + 43 * i))
theorem q6 : ∀ t, t < 6 → vp_in (nI t) 6 := fun t ht => by simp (disch := omega) only [vpT]
theorem l_i0 {E : zE} {Q : zH → Prop} {a : Nat} {hh : zH} (ha0 : a ≠ 0) (d : Nat) : ∀ (h : zH) (t k n : Nat), t + d = 6 → k = 1 + 43 * t → n = 6 + 477 * t → zsz h = a + (2 + 43 * t) → SB hh h a → zi h a = zi hh a → NHi h a t →
    (∀ h', zsz h' = a + 260 → SB hh h' a → zi h' a = zi hh a → NHi h' a 6 → Q h') → zJ E mX0_init (zQv Q) 15 [some (.inr a), some (.inl (nI t))] [] h k n := by
  induction d with
  | zero =>
    intro h t k n ht hk hn hz hS hi hN hq
    obtain rfl : t = 6 := by omega
    (refine jX0_init 200 ?_; simp (disch := omega) only [↓wX0_init_0, ↓wX0_init_1, ↓wX0_init_4, ↓wX0_init_5, ↓wX0_init_7, ↓wX0_init_10, ↓wX0_init_13, ↓wX0_init_14, ↓wX0_init_15, ↓wX0_init_16, ↓wX0_init_18, ↓wX0_init_21, ↓wX0_init_22, ↓wX0_init_25, ↓wX0_init_26, ↓wX0_init_29, ↓wX0_init_30, ↓wX0_init_33, ↓wX0_init_34, ↓wX0_init_37, ↓wX0_init_40, zQi_def, zQa_def, zQv_def, nI00, nI10, nI11, nI01, true_or, or_true, false_or, or_false, eq_self, true_implies, false_implies, not_true_eq_false, not_false_eq_true, zc9, zc1, zc2, zc3, zc1000, nI_m9, nI_add, pk_mul, ix_nI, vpT, zk_zpi, zn_zpi, zr_zpi, zk_zpa, zn_zpa, zr_zpa, zsz_zpi, zsz_zpa, zi_zpa, zpi_pa, zpa_zpa, true_and, and_true, and_self, nI_leI, Nat.le_refl])
    exact hq h (by omega) hS hi hN
  | succ d ih =>
    intro h t k n ht hk hn hz hS hi hN hq
    have hle : ¬ 6 ≤ t := by omega
    obtain ⟨n1, n2, n3, n4, n5⟩ := id hN
    (refine jX0_init 200 ?_; simp (disch := omega) only [↓wX0_init_0, ↓wX0_init_1, ↓wX0_init_4, ↓wX0_init_5, ↓wX0_init_7, ↓wX0_init_10, ↓wX0_init_13, ↓wX0_init_14, ↓wX0_init_15, ↓wX0_init_16, ↓wX0_init_18, ↓wX0_init_21, ↓wX0_init_22, ↓wX0_init_25, ↓wX0_init_26, ↓wX0_init_29, ↓wX0_init_30, ↓wX0_init_33, ↓wX0_init_34, ↓wX0_init_37, ↓wX0_init_40, zQi_def, zQa_def, zQv_def, nI00, nI10, nI11, nI01, true_or, or_true, false_or, or_false, eq_self, true_implies, false_implies, not_true_eq_false, not_false_eq_true, zc9, zc1, zc2, zc3, zc1000, nI_m9, nI_add, pk_mul, ix_nI, vpT, zk_zpi, zn_zpi, zr_zpi, zk_zpa, zn_zpa, zr_zpa, zsz_zpi, zsz_zpa, zi_zpa, zpi_pa, zpa_zpa, true_and, and_true, and_self, nI_leI, hle, n1, n2, n3, n4])
    refine ⟨⟨by omega, by omega⟩, by rw [zk_newE rfl], ⟨by omega, by omega⟩, v_init3 (by rw [zsz_new]) (by omega) (by rw [zk_newE rfl]) ?_⟩
    intro h' z' S' i' N'
    have e : ∀ b, b < zsz h → SM h h' b := fun b hb => by
      obtain ⟨b1, b2, b3, b4⟩ := S' b hb
      rw [zk_new (by omega)] at b1
      rw [zn_new (by omega)] at b2
      rw [zi_new (by omega)] at b3
      rw [zr_new (by omega)] at b4
      exact ⟨b1, b2, b3, b4⟩
    obtain ⟨p1, p2, p3, p4⟩ := e (a + 1) (by omega)
    obtain ⟨o1, o2, o3, o4⟩ := e a (by omega)
    have kk := N'.1
    refine ⟨by rw [p1, n3]; omega, by rw [p2, n4]; exact q6 t (by omega), Or.inr (by rw [p1, n3, kk]; decide), ?_⟩
    rw [hz] at N' z'
    refine ih _ (t + 1) _ _ (by omega) (by omega) (by omega) ?_ ?_ ?_ ⟨?_, ?_, ?_, ?_, fun i hi' => ?_⟩ hq
    · simp (disch := (first | omega | (simp only [zsz_new, zsz_zpr, zsz_zpa, zsz_zpi]; omega))) only [zk_new, zk_newE, zn_new, zn_newE, zi_new, zi_newE, zr_new, zr_newE, zsz_new, zk_zpr, zn_zpr, zi_zpr, zsz_zpr, zr_zprE, zr_zprN, zr_zprF, zr_zpa, zk_zpa, zn_zpa, zi_zpa, zi_zpaN, zsz_zpa]; omega
    · intro b hb
      obtain ⟨b1, b2, b3, b4⟩ := e b (by omega)
      simp (disch := (first | omega | (simp only [zsz_new, zsz_zpr, zsz_zpa, zsz_zpi]; omega))) only [zk_new, zk_newE, zn_new, zn_newE, zi_new, zi_newE, zr_new, zr_newE, zsz_new, zk_zpr, zn_zpr, zi_zpr, zsz_zpr, zr_zprE, zr_zprN, zr_zprF, zr_zpa, zk_zpa, zn_zpa, zi_zpa, zi_zpaN, zsz_zpa]
      obtain ⟨c1, c2, c3, c4⟩ := hS b hb
      exact ⟨b1.trans c1, b2.trans c2, b3.trans c3, b4.trans c4⟩
    · simp (disch := (first | omega | (simp only [zsz_new, zsz_zpr, zsz_zpa, zsz_zpi]; omega))) only [zk_new, zk_newE, zn_new, zn_newE, zi_new, zi_newE, zr_new, zr_newE, zsz_new, zk_zpr, zn_zpr, zi_zpr, zsz_zpr, zr_zprE, zr_zprN, zr_zprF, zr_zpa, zk_zpa, zn_zpa, zi_zpa, zi_zpaN, zsz_zpa]; exact o3.trans hi
    · simp (disch := (first | omega | (simp only [zsz_new, zsz_zpr, zsz_zpa, zsz_zpi]; omega))) only [zk_new, zk_newE, zn_new, zn_newE, zi_new, zi_newE, zr_new, zr_newE, zsz_new, zk_zpr, zn_zpr, zi_zpr, zsz_zpr, zr_zprE, zr_zprN, zr_zprF, zr_zpa, zk_zpa, zn_zpa, zi_zpa, zi_zpaN, zsz_zpa]; exact o1.trans n1
    · simp (disch := (first | omega | (simp only [zsz_new, zsz_zpr, zsz_zpa, zsz_zpi]; omega))) only [zk_new, zk_newE, zn_new, zn_newE, zi_new, zi_newE, zr_new, zr_newE, zsz_new, zk_zpr, zn_zpr, zi_zpr, zsz_zpr, zr_zprE, zr_zprN, zr_zprF, zr_zpa, zk_zpa, zn_zpa, zi_zpa, zi_zpaN, zsz_zpa]; rw [o4]; exact n2
    · simp (disch := (first | omega | (simp only [zsz_new, zsz_zpr, zsz_zpa, zsz_zpi]; omega))) only [zk_new, zk_newE, zn_new, zn_newE, zi_new, zi_newE, zr_new, zr_newE, zsz_new, zk_zpr, zn_zpr, zi_zpr, zsz_zpr, zr_zprE, zr_zprN, zr_zprF, zr_zpa, zk_zpa, zn_zpa, zi_zpa, zi_zpaN, zsz_zpa]; exact p1.trans n3
    · simp (disch := (first | omega | (simp only [zsz_new, zsz_zpr, zsz_zpa, zsz_zpi]; omega))) only [zk_new, zk_newE, zn_new, zn_newE, zi_new, zi_newE, zr_new, zr_newE, zsz_new, zk_zpr, zn_zpr, zi_zpr, zsz_zpr, zr_zprE, zr_zprN, zr_zprF, zr_zpa, zk_zpa, zn_zpa, zi_zpa, zi_zpaN, zsz_zpa]; exact p2.trans n4
    · by_cases c : i = t
      · subst c
        refine ⟨by simp (disch := (first | omega | (simp only [zsz_new, zsz_zpr, zsz_zpa, zsz_zpi]; omega))) only [zk_new, zk_newE, zn_new, zn_newE, zi_new, zi_newE, zr_new, zr_newE, zsz_new, zk_zpr, zn_zpr, zi_zpr, zsz_zpr, zr_zprE, zr_zprN, zr_zprF, zr_zpa, zk_zpa, zn_zpa, zi_zpa, zi_zpaN, zsz_zpa]; exact hz, NSt_tr N' (fun c c1 c2 => ?_)⟩
        refine ⟨?_, ?_, ?_, ?_⟩ <;> simp (disch := (first | omega | (simp only [zsz_new, zsz_zpr, zsz_zpa, zsz_zpi]; omega))) only [zk_new, zk_newE, zn_new, zn_newE, zi_new, zi_newE, zr_new, zr_newE, zsz_new, zk_zpr, zn_zpr, zi_zpr, zsz_zpr, zr_zprE, zr_zprN, zr_zprF, zr_zpa, zk_zpa, zn_zpa, zi_zpa, zi_zpaN, zsz_zpa]
      · obtain ⟨w1, w2⟩ := n5 i (by omega)
        refine ⟨by simp (disch := (first | omega | (simp only [zsz_new, zsz_zpr, zsz_zpa, zsz_zpi]; omega))) only [zk_new, zk_newE, zn_new, zn_newE, zi_new, zi_newE, zr_new, zr_newE, zsz_new, zk_zpr, zn_zpr, zi_zpr, zsz_zpr, zr_zprE, zr_zprN, zr_zprF, zr_zpa, zk_zpa, zn_zpa, zi_zpa, zi_zpaN, zsz_zpa]; rw [p4]; exact w1, NSt_tr w2 (fun c c1 c2 => ?_)⟩
        obtain ⟨b1, b2, b3, b4⟩ := e c (by omega)
        refine ⟨?_, ?_, ?_, ?_⟩ <;> simp (disch := (first | omega | (simp only [zsz_new, zsz_zpr, zsz_zpa, zsz_zpi]; omega))) only [zk_new, zk_newE, zn_new, zn_newE, zi_new, zi_newE, zr_new, zr_newE, zsz_new, zk_zpr, zn_zpr, zi_zpr, zsz_zpr, zr_zprE, zr_zprN, zr_zprF, zr_zpa, zk_zpa, zn_zpa, zi_zpa, zi_zpaN, zsz_zpa] <;> assumption
theorem v_init0 {E : zE} {Q : zH → Prop} {a : Nat} {h : zH} (hz : zsz h = a + 1) (ha0 : a ≠ 0) (hk : zk h a = 1) (hq : ∀ h', zsz h' = a + 260 → SB h h' a → zi h' a = zi h a → NHi h' a 6 → Q h') : zMv E mX0_init [.inr a] h Q := by
  (refine eX0_init 200 ?_; simp (disch := omega) only [↓wX0_init_0, ↓wX0_init_1, ↓wX0_init_4, ↓wX0_init_5, ↓wX0_init_7, ↓wX0_init_10, ↓wX0_init_13, ↓wX0_init_14, ↓wX0_init_15, ↓wX0_init_16, ↓wX0_init_18, ↓wX0_init_21, ↓wX0_init_22, ↓wX0_init_25, ↓wX0_init_26, ↓wX0_init_29, ↓wX0_init_30, ↓wX0_init_33, ↓wX0_init_34, ↓wX0_init_37, ↓wX0_init_40, zQi_def, zQa_def, zQv_def, nI00, nI10, nI11, nI01, true_or, or_true, false_or, or_false, eq_self, true_implies, false_implies, not_true_eq_false, not_false_eq_true, zc9, zc1, zc2, zc3, zc1000, nI_m9, nI_add, pk_mul, ix_nI, vpT, zk_zpi, zn_zpi, zr_zpi, zk_zpa, zn_zpa, zr_zpa, zsz_zpi, zsz_zpa, zi_zpa, zpi_pa, zpa_zpa, true_and, and_true, and_self, hk])
  simp (disch := (first | omega | (simp only [zsz_new, zsz_zpr, zsz_zpa, zsz_zpi]; omega))) only [nI00, nI10, nI11, nI01, true_or, or_true, false_or, or_false, eq_self, true_implies, false_implies, not_true_eq_false, not_false_eq_true, zc9, zc1, zc2, zc3, zc1000, nI_m9, nI_add, pk_mul, ix_nI, vpT, zk_zpi, zn_zpi, zr_zpi, zk_zpa, zn_zpa, zr_zpa, zsz_zpi, zsz_zpa, zi_zpa, zpi_pa, zpa_zpa, true_and, and_true, and_self, zk_new, zk_newE, zn_new, zn_newE, zi_new, zi_newE, zr_new, zr_newE, zsz_new, zk_zpr, zn_zpr, zi_zpr, zsz_zpr, zr_zprE, zr_zprN, zr_zprF, zr_zpa, zk_zpa, zn_zpa, zi_zpa, zi_zpaN, zsz_zpa, n3c, n3n, cl6, nI_nneg, not_false_eq_true, hk, hz]
  refine ⟨ha0, ⟨by omega, by omega, by omega⟩, ?_⟩
  refine l_i0 (hh := h) ha0 6 _ 0 _ _ (by omega) (by omega) (by omega) ?_ ?_ ?_ ⟨?_, ?_, ?_, ?_, fun i hi' => by omega⟩ hq
  · simp (disch := (first | omega | (simp only [zsz_new, zsz_zpr, zsz_zpa, zsz_zpi]; omega))) only [zk_new, zk_newE, zn_new, zn_newE, zi_new, zi_newE, zr_new, zr_newE, zsz_new, zk_zpr, zn_zpr, zi_zpr, zsz_zpr, zr_zprE, zr_zprN, zr_zprF, zr_zpa, zk_zpa, zn_zpa, zi_zpa, zi_zpaN, zsz_zpa]; omega
  · intro b hb
    refine ⟨?_, ?_, ?_, ?_⟩ <;> simp (disch := (first | omega | (simp only [zsz_new, zsz_zpr, zsz_zpa, zsz_zpi]; omega))) only [zk_new, zk_newE, zn_new, zn_newE, zi_new, zi_newE, zr_new, zr_newE, zsz_new, zk_zpr, zn_zpr, zi_zpr, zsz_zpr, zr_zprE, zr_zprN, zr_zprF, zr_zpa, zk_zpa, zn_zpa, zi_zpa, zi_zpaN, zsz_zpa]
  · simp (disch := (first | omega | (simp only [zsz_new, zsz_zpr, zsz_zpa, zsz_zpi]; omega))) only [zk_new, zk_newE, zn_new, zn_newE, zi_new, zi_newE, zr_new, zr_newE, zsz_new, zk_zpr, zn_zpr, zi_zpr, zsz_zpr, zr_zprE, zr_zprN, zr_zprF, zr_zpa, zk_zpa, zn_zpa, zi_zpa, zi_zpaN, zsz_zpa]
  · simp (disch := (first | omega | (simp only [zsz_new, zsz_zpr, zsz_zpa, zsz_zpi]; omega))) only [zk_new, zk_newE, zn_new, zn_newE, zi_new, zi_newE, zr_new, zr_newE, zsz_new, zk_zpr, zn_zpr, zi_zpr, zsz_zpr, zr_zprE, zr_zprN, zr_zprF, zr_zpa, zk_zpa, zn_zpa, zi_zpa, zi_zpaN, zsz_zpa]; exact hk
  · simp (disch := (first | omega | (simp only [zsz_new, zsz_zpr, zsz_zpa, zsz_zpi]; omega))) only [zk_new, zk_newE, zn_new, zn_newE, zi_new, zi_newE, zr_new, zr_newE, zsz_new, zk_zpr, zn_zpr, zi_zpr, zsz_zpr, zr_zprE, zr_zprN, zr_zprF, zr_zpa, zk_zpa, zn_zpa, zi_zpa, zi_zpaN, zsz_zpa]
  · simp (disch := (first | omega | (simp only [zsz_new, zsz_zpr, zsz_zpa, zsz_zpi]; omega))) only [zk_new, zk_newE, zn_new, zn_newE, zi_new, zi_newE, zr_new, zr_newE, zsz_new, zk_zpr, zn_zpr, zi_zpr, zsz_zpr, zr_zprE, zr_zprN, zr_zprF, zr_zpa, zk_zpa, zn_zpa, zi_zpa, zi_zpaN, zsz_zpa]
  · simp (disch := (first | omega | (simp only [zsz_new, zsz_zpr, zsz_zpa, zsz_zpi]; omega))) only [zk_new, zk_newE, zn_new, zn_newE, zi_new, zi_newE, zr_new, zr_newE, zsz_new, zk_zpr, zn_zpr, zi_zpr, zsz_zpr, zr_zprE, zr_zprN, zr_zprF, zr_zpa, zk_zpa, zn_zpa, zi_zpa, zi_zpaN, zsz_zpa]
theorem v_init5 {E : zE} {Q : zH → Prop} {a : Nat} {h : zH} (hz : zsz h = a + 1) (ha0 : a ≠ 0) (hk : zk h a = 6) (hq : ∀ h', zsz h' = a + 3 → SB h h' a → zi h' a = zi h a → (zk h' a = 6 ∧ zr h' a 0 = a + 1 ∧ zr h' a 1 = a + 2 ∧ zk h' (a + 1) = 21 ∧ zn h' (a + 1) = 140 ∧ zk h' (a + 2) = 20 ∧ zn h' (a + 2) = 4) → Q h') : zMv E mX5_init [.inr a] h Q := by
  (refine eX5_init 200 ?_; simp (disch := omega) only [↓wX5_init_0, ↓wX5_init_1, ↓wX5_init_4, ↓wX5_init_5, ↓wX5_init_8, ↓wX5_init_10, ↓wX5_init_13, ↓wX5_init_14, ↓wX5_init_15, ↓wX5_init_17, ↓wX5_init_20, zQi_def, zQa_def, zQv_def, nI00, nI10, nI11, nI01, true_or, or_true, false_or, or_false, eq_self, true_implies, false_implies, not_true_eq_false, not_false_eq_true, zc9, zc1, zc2, zc3, zc1000, nI_m9, nI_add, pk_mul, ix_nI, vpT, zk_zpi, zn_zpi, zr_zpi, zk_zpa, zn_zpa, zr_zpa, zsz_zpi, zsz_zpa, zi_zpa, zpi_pa, zpa_zpa, true_and, and_true, and_self, hk])
  simp (disch := (first | omega | (simp only [zsz_new, zsz_zpr, zsz_zpa, zsz_zpi]; omega))) only [nI00, nI10, nI11, nI01, true_or, or_true, false_or, or_false, eq_self, true_implies, false_implies, not_true_eq_false, not_false_eq_true, zc9, zc1, zc2, zc3, zc1000, nI_m9, nI_add, pk_mul, ix_nI, vpT, zk_zpi, zn_zpi, zr_zpi, zk_zpa, zn_zpa, zr_zpa, zsz_zpi, zsz_zpa, zi_zpa, zpi_pa, zpa_zpa, true_and, and_true, and_self, zk_new, zk_newE, zn_new, zn_newE, zi_new, zi_newE, zr_new, zr_newE, zsz_new, zk_zpr, zn_zpr, zi_zpr, zsz_zpr, zr_zprE, zr_zprN, zr_zprF, zr_zpa, zk_zpa, zn_zpa, zi_zpa, zi_zpaN, zsz_zpa, n3c, n3n, cl140, cl4, nI_nneg, not_false_eq_true, hk, hz]
  refine ⟨ha0, ⟨by omega, by omega, by omega⟩, ⟨by omega, by omega, by omega⟩, ?_⟩
  refine hq _ ?_ ?_ ?_ ⟨?_, ?_, ?_, ?_, ?_, ?_, ?_⟩
  · simp (disch := (first | omega | (simp only [zsz_new, zsz_zpr, zsz_zpa, zsz_zpi]; omega))) only [zk_new, zk_newE, zn_new, zn_newE, zi_new, zi_newE, zr_new, zr_newE, zsz_new, zk_zpr, zn_zpr, zi_zpr, zsz_zpr, zr_zprE, zr_zprN, zr_zprF, zr_zpa, zk_zpa, zn_zpa, zi_zpa, zi_zpaN, zsz_zpa]; omega
  · intro b hb
    refine ⟨?_, ?_, ?_, ?_⟩ <;> simp (disch := (first | omega | (simp only [zsz_new, zsz_zpr, zsz_zpa, zsz_zpi]; omega))) only [zk_new, zk_newE, zn_new, zn_newE, zi_new, zi_newE, zr_new, zr_newE, zsz_new, zk_zpr, zn_zpr, zi_zpr, zsz_zpr, zr_zprE, zr_zprN, zr_zprF, zr_zpa, zk_zpa, zn_zpa, zi_zpa, zi_zpaN, zsz_zpa]
  · simp (disch := (first | omega | (simp only [zsz_new, zsz_zpr, zsz_zpa, zsz_zpi]; omega))) only [zk_new, zk_newE, zn_new, zn_newE, zi_new, zi_newE, zr_new, zr_newE, zsz_new, zk_zpr, zn_zpr, zi_zpr, zsz_zpr, zr_zprE, zr_zprN, zr_zprF, zr_zpa, zk_zpa, zn_zpa, zi_zpa, zi_zpaN, zsz_zpa]
  · simp (disch := (first | omega | (simp only [zsz_new, zsz_zpr, zsz_zpa, zsz_zpi]; omega))) only [zk_new, zk_newE, zn_new, zn_newE, zi_new, zi_newE, zr_new, zr_newE, zsz_new, zk_zpr, zn_zpr, zi_zpr, zsz_zpr, zr_zprE, zr_zprN, zr_zprF, zr_zpa, zk_zpa, zn_zpa, zi_zpa, zi_zpaN, zsz_zpa]; exact hk
  · simp (disch := (first | omega | (simp only [zsz_new, zsz_zpr, zsz_zpa, zsz_zpi]; omega))) only [zk_new, zk_newE, zn_new, zn_newE, zi_new, zi_newE, zr_new, zr_newE, zsz_new, zk_zpr, zn_zpr, zi_zpr, zsz_zpr, zr_zprE, zr_zprN, zr_zprF, zr_zpa, zk_zpa, zn_zpa, zi_zpa, zi_zpaN, zsz_zpa]
  · simp (disch := (first | omega | (simp only [zsz_new, zsz_zpr, zsz_zpa, zsz_zpi]; omega))) only [zk_new, zk_newE, zn_new, zn_newE, zi_new, zi_newE, zr_new, zr_newE, zsz_new, zk_zpr, zn_zpr, zi_zpr, zsz_zpr, zr_zprE, zr_zprN, zr_zprF, zr_zpa, zk_zpa, zn_zpa, zi_zpa, zi_zpaN, zsz_zpa]
  · simp (disch := (first | omega | (simp only [zsz_new, zsz_zpr, zsz_zpa, zsz_zpi]; omega))) only [zk_new, zk_newE, zn_new, zn_newE, zi_new, zi_newE, zr_new, zr_newE, zsz_new, zk_zpr, zn_zpr, zi_zpr, zsz_zpr, zr_zprE, zr_zprN, zr_zprF, zr_zpa, zk_zpa, zn_zpa, zi_zpa, zi_zpaN, zsz_zpa]
  · simp (disch := (first | omega | (simp only [zsz_new, zsz_zpr, zsz_zpa, zsz_zpi]; omega))) only [zk_new, zk_newE, zn_new, zn_newE, zi_new, zi_newE, zr_new, zr_newE, zsz_new, zk_zpr, zn_zpr, zi_zpr, zsz_zpr, zr_zprE, zr_zprN, zr_zprF, zr_zpa, zk_zpa, zn_zpa, zi_zpa, zi_zpaN, zsz_zpa]
  · simp (disch := (first | omega | (simp only [zsz_new, zsz_zpr, zsz_zpa, zsz_zpi]; omega))) only [zk_new, zk_newE, zn_new, zn_newE, zi_new, zi_newE, zr_new, zr_newE, zsz_new, zk_zpr, zn_zpr, zi_zpr, zsz_zpr, zr_zprE, zr_zprN, zr_zprF, zr_zpa, zk_zpa, zn_zpa, zi_zpa, zi_zpaN, zsz_zpa]
  · simp (disch := (first | omega | (simp only [zsz_new, zsz_zpr, zsz_zpa, zsz_zpi]; omega))) only [zk_new, zk_newE, zn_new, zn_newE, zi_new, zi_newE, zr_new, zr_newE, zsz_new, zk_zpr, zn_zpr, zi_zpr, zsz_zpr, zr_zprE, zr_zprN, zr_zprF, zr_zpa, zk_zpa, zn_zpa, zi_zpa, zi_zpaN, zsz_zpa]

def NX (h : zH) (x : Nat) : Prop := (zk h x = 9 ∧ zr h x 0 = x + 1 ∧ zr h x 1 = x + 44 ∧ zr h x 2 = x + 304 ∧ zr h x 3 = x + 307) ∧ (zi h (x + 44) 1 = 0 ∧ zi h (x + 44) 2 = 0 ∧ zi h (x + 304) 2 = 0) ∧ NSt h (x + 1) ∧ NHi h (x + 44) 6 ∧
  (zk h (x + 304) = 6 ∧ zr h (x + 304) 0 = x + 305 ∧ zr h (x + 304) 1 = x + 306 ∧ zk h (x + 305) = 21 ∧ zn h (x + 305) = 140 ∧ zk h (x + 306) = 20 ∧ zn h (x + 306) = 4) ∧ NW h (x + 307)
theorem stp {h h' : zH} {x k v K a : Nat} (hz : zsz h = a) (S : SB (znew (zpr h x k v) K 0) h' a) : ∀ b, b < a → zk h' b = zk h b ∧ zn h' b = zn h b ∧ zi h' b = zi h b ∧ (b ≠ x → zr h' b = zr h b) ∧ (b = x → zr h' x k = v ∧ ∀ j, j ≠ k → zr h' x j = zr h x j) := by
  intro b hb
  obtain ⟨b1, b2, b3, b4⟩ := S b hb
  refine ⟨b1.trans ?_, b2.trans ?_, b3.trans ?_, fun hx => b4.trans ?_, fun hx => ?_⟩
  · simp (disch := (first | omega | (simp only [zsz_new, zsz_zpr, zsz_zpa, zsz_zpi]; omega))) only [zk_new, zk_newE, zn_new, zn_newE, zi_new, zi_newE, zr_new, zr_newE, zsz_new, zk_zpr, zn_zpr, zi_zpr, zsz_zpr, zr_zprE, zr_zprN, zr_zprF, zr_zpa, zk_zpa, zn_zpa, zi_zpa, zi_zpaN, zsz_zpa]
  · simp (disch := (first | omega | (simp only [zsz_new, zsz_zpr, zsz_zpa, zsz_zpi]; omega))) only [zk_new, zk_newE, zn_new, zn_newE, zi_new, zi_newE, zr_new, zr_newE, zsz_new, zk_zpr, zn_zpr, zi_zpr, zsz_zpr, zr_zprE, zr_zprN, zr_zprF, zr_zpa, zk_zpa, zn_zpa, zi_zpa, zi_zpaN, zsz_zpa]
  · simp (disch := (first | omega | (simp only [zsz_new, zsz_zpr, zsz_zpa, zsz_zpi]; omega))) only [zk_new, zk_newE, zn_new, zn_newE, zi_new, zi_newE, zr_new, zr_newE, zsz_new, zk_zpr, zn_zpr, zi_zpr, zsz_zpr, zr_zprE, zr_zprN, zr_zprF, zr_zpa, zk_zpa, zn_zpa, zi_zpa, zi_zpaN, zsz_zpa]
  · simp (disch := (first | omega | (simp only [zsz_new, zsz_zpr, zsz_zpa, zsz_zpi]; omega))) only [zk_new, zk_newE, zn_new, zn_newE, zi_new, zi_newE, zr_new, zr_newE, zsz_new, zk_zpr, zn_zpr, zi_zpr, zsz_zpr, zr_zprE, zr_zprN, zr_zprF, zr_zpa, zk_zpa, zn_zpa, zi_zpa, zi_zpaN, zsz_zpa]
  · subst hx
    rw [b4]
    refine ⟨?_, fun j hj => ?_⟩ <;> simp (disch := (first | omega | (simp only [zsz_new, zsz_zpr, zsz_zpa, zsz_zpi]; omega))) only [zk_new, zk_newE, zn_new, zn_newE, zi_new, zi_newE, zr_new, zr_newE, zsz_new, zk_zpr, zn_zpr, zi_zpr, zsz_zpr, zr_zprE, zr_zprN, zr_zprF, zr_zpa, zk_zpa, zn_zpa, zi_zpa, zi_zpaN, zsz_zpa]
theorem v_init8 {E : zE} {Q : zH → Prop} {x : Nat} {h : zH} (hz : zsz h = x + 1) (hx0 : x ≠ 0) (hk : zk h x = 9) (hq : ∀ h', zsz h' = x + 348 → SB h h' x → NX h' x → Q h') : zMv E mX8_init [.inr x] h Q := by
  (refine eX8_init 200 ?_; simp (disch := omega) only [↓wX8_init_0, ↓wX8_init_1, ↓wX8_init_4, ↓wX8_init_5, ↓wX8_init_8, ↓wX8_init_9, ↓wX8_init_12, ↓wX8_init_15, ↓wX8_init_16, ↓wX8_init_19, ↓wX8_init_20, ↓wX8_init_23, ↓wX8_init_26, ↓wX8_init_27, ↓wX8_init_30, ↓wX8_init_31, ↓wX8_init_34, ↓wX8_init_37, ↓wX8_init_38, ↓wX8_init_41, ↓wX8_init_42, ↓wX8_init_45, ↓wX8_init_48, zQi_def, zQa_def, zQv_def, nI00, nI10, nI11, nI01, true_or, or_true, false_or, or_false, eq_self, true_implies, false_implies, not_true_eq_false, not_false_eq_true, zc9, zc1, zc2, zc3, zc1000, nI_m9, nI_add, pk_mul, ix_nI, vpT, zk_zpi, zn_zpi, zr_zpi, zk_zpa, zn_zpa, zr_zpa, zsz_zpi, zsz_zpa, zi_zpa, zpi_pa, zpa_zpa, true_and, and_true, and_self, hk])
  simp (disch := (first | omega | (simp only [zsz_new, zsz_zpr, zsz_zpa, zsz_zpi]; omega))) only [nI00, nI10, nI11, nI01, true_or, or_true, false_or, or_false, eq_self, true_implies, false_implies, not_true_eq_false, not_false_eq_true, zc9, zc1, zc2, zc3, zc1000, nI_m9, nI_add, pk_mul, ix_nI, vpT, zk_zpi, zn_zpi, zr_zpi, zk_zpa, zn_zpa, zr_zpa, zsz_zpi, zsz_zpa, zi_zpa, zpi_pa, zpa_zpa, true_and, and_true, and_self, zk_new, zk_newE, zn_new, zn_newE, zi_new, zi_newE, zr_new, zr_newE, zsz_new, zk_zpr, zn_zpr, zi_zpr, zsz_zpr, zr_zprE, zr_zprN, zr_zprF, zr_zpa, zk_zpa, zn_zpa, zi_zpa, zi_zpaN, zsz_zpa, nI_nneg, not_false_eq_true, hk, hz]
  refine ⟨hx0, ⟨by omega, by omega⟩, ⟨by omega, by omega⟩, v_init3 (by rw [zsz_new]; omega) (by omega) (by rw [zk_newE (by omega)]) ?_⟩
  intro h1 z1 S1 i1 N1
  have A1 : ∀ b, b < x + 1 → SM h h1 b := fun b hb => by
    obtain ⟨b1, b2, b3, b4⟩ := S1 b hb
    rw [zk_new (by omega)] at b1
    rw [zn_new (by omega)] at b2
    rw [zi_new (by omega)] at b3
    rw [zr_new (by omega)] at b4
    exact ⟨b1, b2, b3, b4⟩
  have k1 : zk h1 x = 9 := (A1 x (by omega)).1.trans hk
  have z1' : zsz h1 = x + 44 := by omega
  refine ⟨k1, ⟨by omega, by omega⟩, by rw [zk_newE (by rfl)], ⟨by omega, by omega⟩, v_init0 (by rw [zsz_new, zsz_zpr]) (by omega) (by rw [zk_newE (by rfl)]) ?_⟩
  rw [z1']
  intro h2 z2 S2 i2 N2
  have A2 := stp z1' S2
  have k2 : zk h2 x = 9 := (A2 x (by omega)).1.trans k1
  have z2' : zsz h2 = x + 304 := by omega
  refine ⟨k2, ⟨by omega, by omega⟩, by rw [zk_newE (by rfl)], ⟨by omega, by omega⟩, v_init5 (by rw [zsz_new, zsz_zpr]) (by omega) (by rw [zk_newE (by rfl)]) ?_⟩
  rw [z2']
  intro h3 z3 S3 i3 N3
  have A3 := stp z2' S3
  have k3 : zk h3 x = 9 := (A3 x (by omega)).1.trans k2
  have z3' : zsz h3 = x + 307 := by omega
  refine ⟨k3, ⟨by omega, by omega⟩, by rw [zk_newE (by rfl)], ⟨by omega, by omega⟩, v_init7 (by rw [zsz_new, zsz_zpr]) (by omega) (by rw [zk_newE (by rfl)]) (fun f => by rw [zi_newE (by rfl)]) ?_⟩
  rw [z3']
  intro h4 z4 S4 N4
  have A4 := stp z3' S4
  have k4 : zk h4 x = 9 := (A4 x (by omega)).1.trans k3
  refine ⟨k4, ?_⟩
  have M2 : ∀ b, b < x + 44 → b ≠ x → SM h1 h2 b := fun b hb hbx => by
    obtain ⟨b1, b2, b3, b4, -⟩ := A2 b hb
    exact ⟨b1, b2, b3, b4 hbx⟩
  have M3 : ∀ b, b < x + 304 → b ≠ x → SM h2 h3 b := fun b hb hbx => by
    obtain ⟨b1, b2, b3, b4, -⟩ := A3 b hb
    exact ⟨b1, b2, b3, b4 hbx⟩
  have M4 : ∀ b, b < x + 307 → b ≠ x → SM h3 h4 b := fun b hb hbx => by
    obtain ⟨b1, b2, b3, b4, -⟩ := A4 b hb
    exact ⟨b1, b2, b3, b4 hbx⟩
  have M5 : ∀ b, b ≠ x → SM h4 (zpr h4 x 3 (x + 307)) b := fun b hbx => by
    refine ⟨?_, ?_, ?_, ?_⟩ <;> simp (disch := (first | omega | (simp only [zsz_new, zsz_zpr, zsz_zpa, zsz_zpi]; omega))) only [zk_new, zk_newE, zn_new, zn_newE, zi_new, zi_newE, zr_new, zr_newE, zsz_new, zk_zpr, zn_zpr, zi_zpr, zsz_zpr, zr_zprE, zr_zprN, zr_zprF, zr_zpa, zk_zpa, zn_zpa, zi_zpa, zi_zpaN, zsz_zpa]
  have tr : ∀ {a b c : zH} {d : Nat}, SM a b d → SM b c d → SM a c d := fun p q => ⟨q.1.trans p.1, q.2.1.trans p.2.1, q.2.2.1.trans p.2.2.1, q.2.2.2.trans p.2.2.2⟩
  obtain ⟨-, -, -, -, r2⟩ := A2 x (by omega)
  obtain ⟨-, -, -, -, r3⟩ := A3 x (by omega)
  obtain ⟨-, -, -, -, r4⟩ := A4 x (by omega)
  have r2 := r2 rfl
  have r3 := r3 rfl
  have r4 := r4 rfl
  have H44 := tr (tr (M3 (x + 44) (by omega) (by omega)) (M4 (x + 44) (by omega) (by omega))) (M5 (x + 44) (by omega))
  have H304 := tr (M4 (x + 304) (by omega) (by omega)) (M5 (x + 304) (by omega))
  refine hq _ ?_ ?_ ⟨⟨?_, ?_, ?_, ?_, ?_⟩, ⟨?_, ?_, ?_⟩, NSt_tr N1 ?_, ?_, ?_, NW_tr N4 ?_⟩
  · simp (disch := (first | omega | (simp only [zsz_new, zsz_zpr, zsz_zpa, zsz_zpi]; omega))) only [zk_new, zk_newE, zn_new, zn_newE, zi_new, zi_newE, zr_new, zr_newE, zsz_new, zk_zpr, zn_zpr, zi_zpr, zsz_zpr, zr_zprE, zr_zprN, zr_zprF, zr_zpa, zk_zpa, zn_zpa, zi_zpa, zi_zpaN, zsz_zpa]; omega
  · intro b hb
    exact tr (tr (tr (tr (A1 b (by omega)) (M2 b (by omega) (by omega))) (M3 b (by omega) (by omega))) (M4 b (by omega) (by omega))) (M5 b (by omega))
  · simp (disch := (first | omega | (simp only [zsz_new, zsz_zpr, zsz_zpa, zsz_zpi]; omega))) only [zk_new, zk_newE, zn_new, zn_newE, zi_new, zi_newE, zr_new, zr_newE, zsz_new, zk_zpr, zn_zpr, zi_zpr, zsz_zpr, zr_zprE, zr_zprN, zr_zprF, zr_zpa, zk_zpa, zn_zpa, zi_zpa, zi_zpaN, zsz_zpa]; exact k4
  · simp (disch := (first | omega | (simp only [zsz_new, zsz_zpr, zsz_zpa, zsz_zpi]; omega))) only [zk_new, zk_newE, zn_new, zn_newE, zi_new, zi_newE, zr_new, zr_newE, zsz_new, zk_zpr, zn_zpr, zi_zpr, zsz_zpr, zr_zprE, zr_zprN, zr_zprF, zr_zpa, zk_zpa, zn_zpa, zi_zpa, zi_zpaN, zsz_zpa]; exact (r4.2 0 (by omega)).trans ((r3.2 0 (by omega)).trans r2.1)
  · simp (disch := (first | omega | (simp only [zsz_new, zsz_zpr, zsz_zpa, zsz_zpi]; omega))) only [zk_new, zk_newE, zn_new, zn_newE, zi_new, zi_newE, zr_new, zr_newE, zsz_new, zk_zpr, zn_zpr, zi_zpr, zsz_zpr, zr_zprE, zr_zprN, zr_zprF, zr_zpa, zk_zpa, zn_zpa, zi_zpa, zi_zpaN, zsz_zpa]; exact (r4.2 1 (by omega)).trans r3.1
  · simp (disch := (first | omega | (simp only [zsz_new, zsz_zpr, zsz_zpa, zsz_zpi]; omega))) only [zk_new, zk_newE, zn_new, zn_newE, zi_new, zi_newE, zr_new, zr_newE, zsz_new, zk_zpr, zn_zpr, zi_zpr, zsz_zpr, zr_zprE, zr_zprN, zr_zprF, zr_zpa, zk_zpa, zn_zpa, zi_zpa, zi_zpaN, zsz_zpa]; exact r4.1
  · simp (disch := (first | omega | (simp only [zsz_new, zsz_zpr, zsz_zpa, zsz_zpi]; omega))) only [zk_new, zk_newE, zn_new, zn_newE, zi_new, zi_newE, zr_new, zr_newE, zsz_new, zk_zpr, zn_zpr, zi_zpr, zsz_zpr, zr_zprE, zr_zprN, zr_zprF, zr_zpa, zk_zpa, zn_zpa, zi_zpa, zi_zpaN, zsz_zpa]
  · rw [H44.2.2.1, i2, zi_newE (by rw [zsz_zpr]; omega)]
  · rw [H44.2.2.1, i2, zi_newE (by rw [zsz_zpr]; omega)]
  · rw [H304.2.2.1, i3, zi_newE (by rw [zsz_zpr]; omega)]
  · intro c c1 c2
    exact tr (tr (tr (M2 c (by omega) (by omega)) (M3 c (by omega) (by omega))) (M4 c (by omega) (by omega))) (M5 c (by omega))
  · have T : ∀ c, x + 44 ≤ c → c < x + 304 → SM h2 (zpr h4 x 3 (x + 307)) c := fun c c1 c2 => tr (tr (M3 c (by omega) (by omega)) (M4 c (by omega) (by omega))) (M5 c (by omega))
    obtain ⟨a1, a2, a3, a4⟩ := T (x + 44) (by omega) (by omega)
    obtain ⟨b1, b2, b3, b4⟩ := T (x + 44 + 1) (by omega) (by omega)
    obtain ⟨n1, n2, n3, n4, n5⟩ := N2
    refine ⟨a1.trans n1, by rw [a4]; exact n2, b1.trans n3, b2.trans n4, fun i hi => ⟨by rw [b4]; exact (n5 i hi).1, NSt_tr (n5 i hi).2 (fun c c1 c2 => T c (by omega) (by omega))⟩⟩
  · have T : ∀ c, x + 304 ≤ c → c < x + 307 → SM h3 (zpr h4 x 3 (x + 307)) c := fun c c1 c2 => tr (M4 c (by omega) (by omega)) (M5 c (by omega))
    obtain ⟨a1, a2, a3, a4⟩ := T (x + 304) (by omega) (by omega)
    obtain ⟨b1, b2, b3, b4⟩ := T (x + 305) (by omega) (by omega)
    obtain ⟨c1, c2, c3, c4⟩ := T (x + 306) (by omega) (by omega)
    obtain ⟨n1, n2, n3, n4, n5, n6, n7⟩ := N3
    exact ⟨a1.trans n1, by rw [a4]; exact n2, by rw [a4]; exact n3, b1.trans n4, b2.trans n5, c1.trans n6, c2.trans n7⟩
  · intro c c1 c2
    exact M5 c (by omega)

