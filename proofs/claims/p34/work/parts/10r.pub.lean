/-! The class: public actions on the world. -/
theorem gT_tl {nk nr td k : Nat} (hk : 433 ≤ k) (d : Nat) : ∀ (r : Nat → Int32) (t n : Nat) (mi tg : Int32), t + d = n → GI r n nr nk td → (gT nk d r t n mi tg).1 k = r k := by
  induction d with
  | zero => intro r t n mi tg _ hG; rfl
  | succ d ih =>
    intro r t n mi tg ht hG
    have hb := hG.2.2.2.1
    have hT := hG.2.2.2.2 t (by omega)
    have h0 := hG.2.2.1
    have i1 := ixx_lt hT.1 (by omega)
    have rm : ∀ f : Nat → Int32, rmT f t n k = f k := fun f => by unfold rmT; rw [if_neg (by omega), if_neg (by omega)]
    unfold gT
    split
    · exact ih _ _ _ _ _ (by omega) hG
    · split
      · rw [h0, nI_add, ih _ _ _ _ _ (by omega) (GI_up (GI_day hG (by omega)) (by omega)), zup_ne (by omega), zup_ne (by omega)]
      · split
        · have e := fun k hk => dT_at (k := k) hb.2.2.1 hb.2.2.2 hT hk
          rw [ih _ t (n - 1) _ _ (by omega) (GI_rm (GI_up (GI_dT hG (by omega)) (by omega)) (by omega)), rm, zup_ne (by omega), e _ (by omega)]
        · rw [ih _ t (n - 1) _ _ (by omega) (GI_rm (GI_up hG (by omega)) (by omega)), rm, zup_ne (by omega)]
theorem pD_tl {r : Nat → Int32} {nr nk n td k : Nat} (hk : 433 ≤ k) (hI : RI r nr nk n td) (htd : td < 199) : (pD r nr nk n).1 k = r k := by
  obtain ⟨i1, i2, i3, i0, hb, hT, hK⟩ := hI
  have hG : GI r n nr nk td := ⟨i3, i2, i0, ⟨htd, hb.2.1, hb.2.2⟩, hT⟩
  have h6 := gT_tl (nk := nk) (nr := nr) (td := td) hk n (zD nr r 0) 0 n (nI 0) (nI 0) (by omega) (GI_of (fun k hk => zD_at (by omega)) hG)
  unfold pD
  simp only
  rw [zup_ne (by omega), zD_at (by omega), rK_at (by omega) (by omega), eD_at (by omega) (by omega), zup_ne (by omega), h6, zD_at (by omega)]
theorem pN_tl {nr nk k : Nat} (hk : 433 ≤ k) (d : Nat) : ∀ (r : Nat → Int32) (n td : Nat) (mi : Int32), RI r nr nk n td → td + d ≤ 199 → (pN nr nk d r mi).1 k = r k := by
  induction d with
  | zero => intro r n td mi _ _; rfl
  | succ d ih =>
    intro r n td mi hI htd
    obtain ⟨n', hn', hI'⟩ := pD_keep hI (by omega)
    unfold pN
    have e3 : ixx (r 3) = n := by rw [hI.2.2.1, ixx_nI (by have := hI.2.2.2.2.1; omega)]
    rw [e3, ih _ n' (td + 1) _ hI' (by omega), pD_tl hk hI (by omega)]
abbrev TL (r : Nat → Int32) (o : Int32 × Option (Nat → Int32)) : Prop := ∀ r', o.2 = some r' → ∀ k, 433 ≤ k → r' k = r k
theorem TL_n {r : Nat → Int32} {a : Int32} : TL r (a, none) := fun _ h => by cases h
theorem TL_s {r r' : Nat → Int32} {a : Int32} (h : ∀ k, 433 ≤ k → r' k = r k) : TL r (a, some r') := fun q e k hk => by cases e; exact h k hk
theorem ixx_in {x : Int32} {n : Nat} (h : inN x n = true) (hn : n < 2147483648) : ixx x < n := by
  obtain ⟨j, hj, rfl⟩ := (inN_iff hn).mp h
  rw [ixx_nI (by omega)]; exact hj
theorem tlTide {r : Nat → Int32} {x y : Int32} : TL r (oTide r x y) := by
  unfold oTide
  split
  · rename_i q
    have := ixx_in q.1 (by omega)
    exact TL_s (fun k hk => zup_ne (by omega))
  · exact TL_n
theorem tlSwell {r : Nat → Int32} {td : Nat} {x y : Int32} : TL r (oSwell r td x y) := by
  unfold oSwell
  split
  · rename_i q
    obtain ⟨j, hj, rfl⟩ := swC_d q
    exact TL_s (fun k hk => by rw [ixx_nI (by omega)]; exact zup_ne (by omega))
  · exact TL_n
theorem tlRock {r : Nat → Int32} {nr : Nat} {x y z : Int32} (h : nr ≤ 3) : TL r (oRock r nr x y z) := by
  unfold oRock
  split
  · rename_i q
    have := rkC_n q
    exact TL_s (fun k hk => rkN_at (by omega) (by omega))
  · exact TL_n
theorem tlCome {r : Nat → Int32} {nk : Nat} {x : Int32} (h : nk ≤ 8) : TL r (oCome r nk x) := by
  unfold oCome
  split
  · rename_i q
    have := cmC_n q
    exact TL_s (fun k hk => kpN_at (by omega) (by omega))
  · exact TL_n
theorem tlRel {r : Nat → Int32} {nr nk n td : Nat} {a d c g : Int32} (h : n ≤ 12) : TL r (oRel r nr nk n td a d c g) := by
  unfold oRel
  split
  · rename_i q
    have := (tnC_n q).1
    exact TL_s (fun k hk => plN_at (by omega) (by omega))
  · exact TL_n
theorem tlChg {r : Nat → Int32} {nr nk n td : Nat} {a d c g : Int32} (h : n ≤ 12) : TL r (oChg r nr nk n td a d c g) := by
  unfold oChg
  split
  · rename_i q
    have := (tnC_n q).1
    exact TL_s (fun k hk => plN_at (by omega) (by omega))
  · exact TL_n
theorem tlBri {r : Nat → Int32} {nr n td : Nat} {a d c g : Int32} (h : n ≤ 12) : TL r (oBri r nr n td a d c g) := by
  unfold oBri
  split
  · rename_i q
    have := (tnC_n q).1
    exact TL_s (fun k hk => plN_at (by omega) (by omega))
  · exact TL_n
theorem tlKeep {r : Nat → Int32} {nr : Nat} {a d c : Int32} (h : nr ≤ 3) : TL r (oKeep r nr a d c) := by
  unfold oKeep
  split
  · rename_i q
    have i1 := ixx_in q.1.1 (by omega)
    have i2 := ixx_in q.1.2 (by omega)
    split
    · exact TL_s (fun k hk => zup_ne (by omega))
    · exact TL_n
  · exact TL_n
theorem tlCan {r : Nat → Int32} {n : Nat} {t : Int32} (h : n ≤ 12) : TL r (oCan r n t) := by
  unfold oCan
  split
  · exact TL_s (fun k hk => by unfold rmT; rw [if_neg (by omega), if_neg (by omega)])
  · exact TL_n
theorem tlExc {r : Nat → Int32} {n : Nat} {a b : Int32} (h : n ≤ 12) : TL r (oExc r n a b) := by
  unfold oExc
  split
  · rename_i q
    have i1 := ixx_in q.1 (by omega)
    have i2 := ixx_in q.2.1 (by omega)
    split
    · exact TL_s (fun k hk => by rw [zup_ne (by omega), zup_ne (by omega)])
    · exact TL_n
  · exact TL_n
theorem tlPass {r : Nat → Int32} {nr nk n td : Nat} {d : Int32} (hI : RI r nr nk n td) : TL r (oPass r nr nk td d) := by
  unfold oPass
  split
  · rename_i q
    obtain ⟨j, hj1, hj2, rfl, htd⟩ := psC_d hI.2.2.2.2.1.1 q
    rw [ixx_nI (by omega)]
    exact TL_s (fun k hk => pN_tl hk j r n td _ hI htd)
  · exact TL_n

theorem pb_setTide {E : zE} {Q : Int32 → zH → Prop} {x s L nr nk n td : Nat} {h : zH} {F : Nat → Nat → Int32} {a b : Int32} (hC : CI h x F s L) (hW : WR h (x + 1 + 1) (F 1) nr nk n td) (hq : UO Q h x F s L (oTide (F 1) a b)) : zMi E mX8_setTide [.inr x, .inl a, .inl b] h Q := by
  obtain ⟨hX, ⟨o, hH⟩, hT⟩ := hC
  have xk := hX.1.1
  have hz := hX.2.2.2.2.2.2
  have hI : RI (F 1) nr nk n td := by
    obtain ⟨-, p, -, hR⟩ := hW
    exact hR.1
  have hb := hI.2.2.2.2.1
  (refine eX8_setTide 200 ?_; simp (disch := omega) only [↓wX8_setTide_0, ↓wX8_setTide_1, ↓wX8_setTide_4, ↓wX8_setTide_5, ↓wX8_setTide_6, ↓wX8_setTide_9, ↓wX8_setTide_12, ↓wX8_setTide_13, ↓wX8_setTide_14, ↓wX8_setTide_17, ↓wX8_setTide_20, zQi_def, zQa_def, zQv_def, nI00, nI10, nI11, nI01, true_or, or_true, false_or, or_false, eq_self, true_implies, false_implies, not_true_eq_false, not_false_eq_true, zc9, zc1, zc2, zc3, zc1000, nI_m9, nI_add, pk_mul, ix_nI, vpT, zk_zpi, zn_zpi, zr_zpi, zk_zpa, zn_zpa, zr_zpa, zsz_zpi, zsz_zpa, zi_zpa, zpi_pa, zpa_zpa, true_and, and_true, and_self, xk])
  refine v_prepare hX hH ?_
  intro h1 z1 o1 p1 s1
  obtain ⟨X1, H1, T1⟩ := pre_keep hX hH hT o1 p1
  obtain ⟨⟨a1, a2, a3, a4, a5⟩, -⟩ := id X1
  obtain ⟨b1, b2, b3⟩ := SP_w X1.2.2.2.1
  have hW1 := WR_tr hW (OUT_same o1 (by omega) (by unfold spA; omega))
  try simp (disch := omega) only [↓wX8_setTide_0, ↓wX8_setTide_1, ↓wX8_setTide_4, ↓wX8_setTide_5, ↓wX8_setTide_6, ↓wX8_setTide_9, ↓wX8_setTide_12, ↓wX8_setTide_13, ↓wX8_setTide_14, ↓wX8_setTide_17, ↓wX8_setTide_20, zQi_def, zQa_def, zQv_def, nI00, nI10, nI11, nI01, true_or, or_true, false_or, or_false, eq_self, true_implies, false_implies, not_true_eq_false, not_false_eq_true, zc9, zc1, zc2, zc3, zc1000, nI_m9, nI_add, pk_mul, ix_nI, vpT, zk_zpi, zn_zpi, zr_zpi, zk_zpa, zn_zpa, zr_zpa, zsz_zpi, zsz_zpa, zi_zpa, zpi_pa, zpa_zpa, true_and, and_true, and_self, a1, a2, b1, b2, b3]
  refine W_lift hW1 (fun G p hw hR hA => v_putTide hw hR hA) ?_
  exact act_fin X1 H1 T1 s1 (OUT_mono o1 (by unfold spA; omega) (by unfold spA; omega)) tlTide hq
theorem pb_setSwell {E : zE} {Q : Int32 → zH → Prop} {x s L nr nk n td : Nat} {h : zH} {F : Nat → Nat → Int32} {a b : Int32} (hC : CI h x F s L) (hW : WR h (x + 1 + 1) (F 1) nr nk n td) (hq : UO Q h x F s L (oSwell (F 1) td a b)) : zMi E mX8_setSwell [.inr x, .inl a, .inl b] h Q := by
  obtain ⟨hX, ⟨o, hH⟩, hT⟩ := hC
  have xk := hX.1.1
  have hz := hX.2.2.2.2.2.2
  have hI : RI (F 1) nr nk n td := by
    obtain ⟨-, p, -, hR⟩ := hW
    exact hR.1
  have hb := hI.2.2.2.2.1
  (refine eX8_setSwell 200 ?_; simp (disch := omega) only [↓wX8_setSwell_0, ↓wX8_setSwell_1, ↓wX8_setSwell_4, ↓wX8_setSwell_5, ↓wX8_setSwell_6, ↓wX8_setSwell_9, ↓wX8_setSwell_12, ↓wX8_setSwell_13, ↓wX8_setSwell_14, ↓wX8_setSwell_17, ↓wX8_setSwell_20, zQi_def, zQa_def, zQv_def, nI00, nI10, nI11, nI01, true_or, or_true, false_or, or_false, eq_self, true_implies, false_implies, not_true_eq_false, not_false_eq_true, zc9, zc1, zc2, zc3, zc1000, nI_m9, nI_add, pk_mul, ix_nI, vpT, zk_zpi, zn_zpi, zr_zpi, zk_zpa, zn_zpa, zr_zpa, zsz_zpi, zsz_zpa, zi_zpa, zpi_pa, zpa_zpa, true_and, and_true, and_self, xk])
  refine v_prepare hX hH ?_
  intro h1 z1 o1 p1 s1
  obtain ⟨X1, H1, T1⟩ := pre_keep hX hH hT o1 p1
  obtain ⟨⟨a1, a2, a3, a4, a5⟩, -⟩ := id X1
  obtain ⟨b1, b2, b3⟩ := SP_w X1.2.2.2.1
  have hW1 := WR_tr hW (OUT_same o1 (by omega) (by unfold spA; omega))
  try simp (disch := omega) only [↓wX8_setSwell_0, ↓wX8_setSwell_1, ↓wX8_setSwell_4, ↓wX8_setSwell_5, ↓wX8_setSwell_6, ↓wX8_setSwell_9, ↓wX8_setSwell_12, ↓wX8_setSwell_13, ↓wX8_setSwell_14, ↓wX8_setSwell_17, ↓wX8_setSwell_20, zQi_def, zQa_def, zQv_def, nI00, nI10, nI11, nI01, true_or, or_true, false_or, or_false, eq_self, true_implies, false_implies, not_true_eq_false, not_false_eq_true, zc9, zc1, zc2, zc3, zc1000, nI_m9, nI_add, pk_mul, ix_nI, vpT, zk_zpi, zn_zpi, zr_zpi, zk_zpa, zn_zpa, zr_zpa, zsz_zpi, zsz_zpa, zi_zpa, zpi_pa, zpa_zpa, true_and, and_true, and_self, a1, a2, b1, b2, b3]
  refine W_lift hW1 (fun G p hw hR hA => v_putSwell hw hR hA) ?_
  exact act_fin X1 H1 T1 s1 (OUT_mono o1 (by unfold spA; omega) (by unfold spA; omega)) tlSwell hq
theorem pb_addRock {E : zE} {Q : Int32 → zH → Prop} {x s L nr nk n td : Nat} {h : zH} {F : Nat → Nat → Int32} {a b c : Int32} (hC : CI h x F s L) (hW : WR h (x + 1 + 1) (F 1) nr nk n td) (hq : UO Q h x F s L (oRock (F 1) nr a b c)) : zMi E mX8_addRock [.inr x, .inl a, .inl b, .inl c] h Q := by
  obtain ⟨hX, ⟨o, hH⟩, hT⟩ := hC
  have xk := hX.1.1
  have hz := hX.2.2.2.2.2.2
  have hI : RI (F 1) nr nk n td := by
    obtain ⟨-, p, -, hR⟩ := hW
    exact hR.1
  have hb := hI.2.2.2.2.1
  (refine eX8_addRock 200 ?_; simp (disch := omega) only [↓wX8_addRock_0, ↓wX8_addRock_1, ↓wX8_addRock_4, ↓wX8_addRock_5, ↓wX8_addRock_6, ↓wX8_addRock_9, ↓wX8_addRock_12, ↓wX8_addRock_13, ↓wX8_addRock_14, ↓wX8_addRock_15, ↓wX8_addRock_18, ↓wX8_addRock_21, zQi_def, zQa_def, zQv_def, nI00, nI10, nI11, nI01, true_or, or_true, false_or, or_false, eq_self, true_implies, false_implies, not_true_eq_false, not_false_eq_true, zc9, zc1, zc2, zc3, zc1000, nI_m9, nI_add, pk_mul, ix_nI, vpT, zk_zpi, zn_zpi, zr_zpi, zk_zpa, zn_zpa, zr_zpa, zsz_zpi, zsz_zpa, zi_zpa, zpi_pa, zpa_zpa, true_and, and_true, and_self, xk])
  refine v_prepare hX hH ?_
  intro h1 z1 o1 p1 s1
  obtain ⟨X1, H1, T1⟩ := pre_keep hX hH hT o1 p1
  obtain ⟨⟨a1, a2, a3, a4, a5⟩, -⟩ := id X1
  obtain ⟨b1, b2, b3⟩ := SP_w X1.2.2.2.1
  have hW1 := WR_tr hW (OUT_same o1 (by omega) (by unfold spA; omega))
  try simp (disch := omega) only [↓wX8_addRock_0, ↓wX8_addRock_1, ↓wX8_addRock_4, ↓wX8_addRock_5, ↓wX8_addRock_6, ↓wX8_addRock_9, ↓wX8_addRock_12, ↓wX8_addRock_13, ↓wX8_addRock_14, ↓wX8_addRock_15, ↓wX8_addRock_18, ↓wX8_addRock_21, zQi_def, zQa_def, zQv_def, nI00, nI10, nI11, nI01, true_or, or_true, false_or, or_false, eq_self, true_implies, false_implies, not_true_eq_false, not_false_eq_true, zc9, zc1, zc2, zc3, zc1000, nI_m9, nI_add, pk_mul, ix_nI, vpT, zk_zpi, zn_zpi, zr_zpi, zk_zpa, zn_zpa, zr_zpa, zsz_zpi, zsz_zpa, zi_zpa, zpi_pa, zpa_zpa, true_and, and_true, and_self, a1, a2, b1, b2, b3]
  refine W_lift hW1 (fun G p hw hR hA => v_placeRock hw hR hA) ?_
  exact act_fin X1 H1 T1 s1 (OUT_mono o1 (by unfold spA; omega) (by unfold spA; omega)) (tlRock hb.2.2.1) hq
theorem pb_setKeep {E : zE} {Q : Int32 → zH → Prop} {x s L nr nk n td : Nat} {h : zH} {F : Nat → Nat → Int32} {a b c : Int32} (hC : CI h x F s L) (hW : WR h (x + 1 + 1) (F 1) nr nk n td) (hq : UO Q h x F s L (oKeep (F 1) nr a b c)) : zMi E mX8_setKeep [.inr x, .inl a, .inl b, .inl c] h Q := by
  obtain ⟨hX, ⟨o, hH⟩, hT⟩ := hC
  have xk := hX.1.1
  have hz := hX.2.2.2.2.2.2
  have hI : RI (F 1) nr nk n td := by
    obtain ⟨-, p, -, hR⟩ := hW
    exact hR.1
  have hb := hI.2.2.2.2.1
  (refine eX8_setKeep 200 ?_; simp (disch := omega) only [↓wX8_setKeep_0, ↓wX8_setKeep_1, ↓wX8_setKeep_4, ↓wX8_setKeep_5, ↓wX8_setKeep_6, ↓wX8_setKeep_9, ↓wX8_setKeep_12, ↓wX8_setKeep_13, ↓wX8_setKeep_14, ↓wX8_setKeep_15, ↓wX8_setKeep_18, ↓wX8_setKeep_21, zQi_def, zQa_def, zQv_def, nI00, nI10, nI11, nI01, true_or, or_true, false_or, or_false, eq_self, true_implies, false_implies, not_true_eq_false, not_false_eq_true, zc9, zc1, zc2, zc3, zc1000, nI_m9, nI_add, pk_mul, ix_nI, vpT, zk_zpi, zn_zpi, zr_zpi, zk_zpa, zn_zpa, zr_zpa, zsz_zpi, zsz_zpa, zi_zpa, zpi_pa, zpa_zpa, true_and, and_true, and_self, xk])
  refine v_prepare hX hH ?_
  intro h1 z1 o1 p1 s1
  obtain ⟨X1, H1, T1⟩ := pre_keep hX hH hT o1 p1
  obtain ⟨⟨a1, a2, a3, a4, a5⟩, -⟩ := id X1
  obtain ⟨b1, b2, b3⟩ := SP_w X1.2.2.2.1
  have hW1 := WR_tr hW (OUT_same o1 (by omega) (by unfold spA; omega))
  try simp (disch := omega) only [↓wX8_setKeep_0, ↓wX8_setKeep_1, ↓wX8_setKeep_4, ↓wX8_setKeep_5, ↓wX8_setKeep_6, ↓wX8_setKeep_9, ↓wX8_setKeep_12, ↓wX8_setKeep_13, ↓wX8_setKeep_14, ↓wX8_setKeep_15, ↓wX8_setKeep_18, ↓wX8_setKeep_21, zQi_def, zQa_def, zQv_def, nI00, nI10, nI11, nI01, true_or, or_true, false_or, or_false, eq_self, true_implies, false_implies, not_true_eq_false, not_false_eq_true, zc9, zc1, zc2, zc3, zc1000, nI_m9, nI_add, pk_mul, ix_nI, vpT, zk_zpi, zn_zpi, zr_zpi, zk_zpa, zn_zpa, zr_zpa, zsz_zpi, zsz_zpa, zi_zpa, zpi_pa, zpa_zpa, true_and, and_true, and_self, a1, a2, b1, b2, b3]
  refine W_lift hW1 (fun G p hw hR hA => v_putKeep hw hR hA) ?_
  exact act_fin X1 H1 T1 s1 (OUT_mono o1 (by unfold spA; omega) (by unfold spA; omega)) (tlKeep hb.2.2.1) hq
theorem pb_come {E : zE} {Q : Int32 → zH → Prop} {x s L nr nk n td : Nat} {h : zH} {F : Nat → Nat → Int32} {a : Int32} (hC : CI h x F s L) (hW : WR h (x + 1 + 1) (F 1) nr nk n td) (hq : UO Q h x F s L (oCome (F 1) nk a)) : zMi E mX8_come [.inr x, .inl a] h Q := by
  obtain ⟨hX, ⟨o, hH⟩, hT⟩ := hC
  have xk := hX.1.1
  have hz := hX.2.2.2.2.2.2
  have hI : RI (F 1) nr nk n td := by
    obtain ⟨-, p, -, hR⟩ := hW
    exact hR.1
  have hb := hI.2.2.2.2.1
  (refine eX8_come 200 ?_; simp (disch := omega) only [↓wX8_come_0, ↓wX8_come_1, ↓wX8_come_4, ↓wX8_come_5, ↓wX8_come_6, ↓wX8_come_9, ↓wX8_come_12, ↓wX8_come_13, ↓wX8_come_16, ↓wX8_come_19, zQi_def, zQa_def, zQv_def, nI00, nI10, nI11, nI01, true_or, or_true, false_or, or_false, eq_self, true_implies, false_implies, not_true_eq_false, not_false_eq_true, zc9, zc1, zc2, zc3, zc1000, nI_m9, nI_add, pk_mul, ix_nI, vpT, zk_zpi, zn_zpi, zr_zpi, zk_zpa, zn_zpa, zr_zpa, zsz_zpi, zsz_zpa, zi_zpa, zpi_pa, zpa_zpa, true_and, and_true, and_self, xk])
  refine v_prepare hX hH ?_
  intro h1 z1 o1 p1 s1
  obtain ⟨X1, H1, T1⟩ := pre_keep hX hH hT o1 p1
  obtain ⟨⟨a1, a2, a3, a4, a5⟩, -⟩ := id X1
  obtain ⟨b1, b2, b3⟩ := SP_w X1.2.2.2.1
  have hW1 := WR_tr hW (OUT_same o1 (by omega) (by unfold spA; omega))
  try simp (disch := omega) only [↓wX8_come_0, ↓wX8_come_1, ↓wX8_come_4, ↓wX8_come_5, ↓wX8_come_6, ↓wX8_come_9, ↓wX8_come_12, ↓wX8_come_13, ↓wX8_come_16, ↓wX8_come_19, zQi_def, zQa_def, zQv_def, nI00, nI10, nI11, nI01, true_or, or_true, false_or, or_false, eq_self, true_implies, false_implies, not_true_eq_false, not_false_eq_true, zc9, zc1, zc2, zc3, zc1000, nI_m9, nI_add, pk_mul, ix_nI, vpT, zk_zpi, zn_zpi, zr_zpi, zk_zpa, zn_zpa, zr_zpa, zsz_zpi, zsz_zpa, zi_zpa, zpi_pa, zpa_zpa, true_and, and_true, and_self, a1, a2, b1, b2, b3]
  refine W_lift hW1 (fun G p hw hR hA => v_addKeeper hw hR hA) ?_
  exact act_fin X1 H1 T1 s1 (OUT_mono o1 (by unfold spA; omega) (by unfold spA; omega)) (tlCome hb.2.2.2) hq
theorem pb_relieve {E : zE} {Q : Int32 → zH → Prop} {x s L nr nk n td : Nat} {h : zH} {F : Nat → Nat → Int32} {a b c d : Int32} (hC : CI h x F s L) (hW : WR h (x + 1 + 1) (F 1) nr nk n td) (hq : UO Q h x F s L (oRel (F 1) nr nk n td a b c d)) : zMi E mX8_relieve [.inr x, .inl a, .inl b, .inl c, .inl d] h Q := by
  obtain ⟨hX, ⟨o, hH⟩, hT⟩ := hC
  have xk := hX.1.1
  have hz := hX.2.2.2.2.2.2
  have hI : RI (F 1) nr nk n td := by
    obtain ⟨-, p, -, hR⟩ := hW
    exact hR.1
  have hb := hI.2.2.2.2.1
  (refine eX8_relieve 200 ?_; simp (disch := omega) only [↓wX8_relieve_0, ↓wX8_relieve_1, ↓wX8_relieve_4, ↓wX8_relieve_5, ↓wX8_relieve_6, ↓wX8_relieve_9, ↓wX8_relieve_12, ↓wX8_relieve_13, ↓wX8_relieve_14, ↓wX8_relieve_15, ↓wX8_relieve_17, ↓wX8_relieve_20, ↓wX8_relieve_23, zQi_def, zQa_def, zQv_def, nI00, nI10, nI11, nI01, true_or, or_true, false_or, or_false, eq_self, true_implies, false_implies, not_true_eq_false, not_false_eq_true, zc9, zc1, zc2, zc3, zc1000, nI_m9, nI_add, pk_mul, ix_nI, vpT, zk_zpi, zn_zpi, zr_zpi, zk_zpa, zn_zpa, zr_zpa, zsz_zpi, zsz_zpa, zi_zpa, zpi_pa, zpa_zpa, true_and, and_true, and_self, xk])
  refine v_prepare hX hH ?_
  intro h1 z1 o1 p1 s1
  obtain ⟨X1, H1, T1⟩ := pre_keep hX hH hT o1 p1
  obtain ⟨⟨a1, a2, a3, a4, a5⟩, -⟩ := id X1
  obtain ⟨b1, b2, b3⟩ := SP_w X1.2.2.2.1
  have hW1 := WR_tr hW (OUT_same o1 (by omega) (by unfold spA; omega))
  try simp (disch := omega) only [↓wX8_relieve_0, ↓wX8_relieve_1, ↓wX8_relieve_4, ↓wX8_relieve_5, ↓wX8_relieve_6, ↓wX8_relieve_9, ↓wX8_relieve_12, ↓wX8_relieve_13, ↓wX8_relieve_14, ↓wX8_relieve_15, ↓wX8_relieve_17, ↓wX8_relieve_20, ↓wX8_relieve_23, zQi_def, zQa_def, zQv_def, nI00, nI10, nI11, nI01, true_or, or_true, false_or, or_false, eq_self, true_implies, false_implies, not_true_eq_false, not_false_eq_true, zc9, zc1, zc2, zc3, zc1000, nI_m9, nI_add, pk_mul, ix_nI, vpT, zk_zpi, zn_zpi, zr_zpi, zk_zpa, zn_zpa, zr_zpa, zsz_zpi, zsz_zpa, zi_zpa, zpi_pa, zpa_zpa, true_and, and_true, and_self, a1, a2, b1, b2, b3]
  refine W_lift hW1 (fun G p hw hR hA => v_planRelief hw hR hA) ?_
  exact act_fin X1 H1 T1 s1 (OUT_mono o1 (by unfold spA; omega) (by unfold spA; omega)) (tlRel hb.2.1) hq
theorem pb_change {E : zE} {Q : Int32 → zH → Prop} {x s L nr nk n td : Nat} {h : zH} {F : Nat → Nat → Int32} {a b c d : Int32} (hC : CI h x F s L) (hW : WR h (x + 1 + 1) (F 1) nr nk n td) (hq : UO Q h x F s L (oChg (F 1) nr nk n td a b c d)) : zMi E mX8_change [.inr x, .inl a, .inl b, .inl c, .inl d] h Q := by
  obtain ⟨hX, ⟨o, hH⟩, hT⟩ := hC
  have xk := hX.1.1
  have hz := hX.2.2.2.2.2.2
  have hI : RI (F 1) nr nk n td := by
    obtain ⟨-, p, -, hR⟩ := hW
    exact hR.1
  have hb := hI.2.2.2.2.1
  (refine eX8_change 200 ?_; simp (disch := omega) only [↓wX8_change_0, ↓wX8_change_1, ↓wX8_change_4, ↓wX8_change_5, ↓wX8_change_6, ↓wX8_change_9, ↓wX8_change_12, ↓wX8_change_13, ↓wX8_change_14, ↓wX8_change_15, ↓wX8_change_17, ↓wX8_change_20, ↓wX8_change_23, zQi_def, zQa_def, zQv_def, nI00, nI10, nI11, nI01, true_or, or_true, false_or, or_false, eq_self, true_implies, false_implies, not_true_eq_false, not_false_eq_true, zc9, zc1, zc2, zc3, zc1000, nI_m9, nI_add, pk_mul, ix_nI, vpT, zk_zpi, zn_zpi, zr_zpi, zk_zpa, zn_zpa, zr_zpa, zsz_zpi, zsz_zpa, zi_zpa, zpi_pa, zpa_zpa, true_and, and_true, and_self, xk])
  refine v_prepare hX hH ?_
  intro h1 z1 o1 p1 s1
  obtain ⟨X1, H1, T1⟩ := pre_keep hX hH hT o1 p1
  obtain ⟨⟨a1, a2, a3, a4, a5⟩, -⟩ := id X1
  obtain ⟨b1, b2, b3⟩ := SP_w X1.2.2.2.1
  have hW1 := WR_tr hW (OUT_same o1 (by omega) (by unfold spA; omega))
  try simp (disch := omega) only [↓wX8_change_0, ↓wX8_change_1, ↓wX8_change_4, ↓wX8_change_5, ↓wX8_change_6, ↓wX8_change_9, ↓wX8_change_12, ↓wX8_change_13, ↓wX8_change_14, ↓wX8_change_15, ↓wX8_change_17, ↓wX8_change_20, ↓wX8_change_23, zQi_def, zQa_def, zQv_def, nI00, nI10, nI11, nI01, true_or, or_true, false_or, or_false, eq_self, true_implies, false_implies, not_true_eq_false, not_false_eq_true, zc9, zc1, zc2, zc3, zc1000, nI_m9, nI_add, pk_mul, ix_nI, vpT, zk_zpi, zn_zpi, zr_zpi, zk_zpa, zn_zpa, zr_zpa, zsz_zpi, zsz_zpa, zi_zpa, zpi_pa, zpa_zpa, true_and, and_true, and_self, a1, a2, b1, b2, b3]
  refine W_lift hW1 (fun G p hw hR hA => v_planChange hw hR hA) ?_
  exact act_fin X1 H1 T1 s1 (OUT_mono o1 (by unfold spA; omega) (by unfold spA; omega)) (tlChg hb.2.1) hq
theorem pb_bring {E : zE} {Q : Int32 → zH → Prop} {x s L nr nk n td : Nat} {h : zH} {F : Nat → Nat → Int32} {a b c d : Int32} (hC : CI h x F s L) (hW : WR h (x + 1 + 1) (F 1) nr nk n td) (hq : UO Q h x F s L (oBri (F 1) nr n td a b c d)) : zMi E mX8_bring [.inr x, .inl a, .inl b, .inl c, .inl d] h Q := by
  obtain ⟨hX, ⟨o, hH⟩, hT⟩ := hC
  have xk := hX.1.1
  have hz := hX.2.2.2.2.2.2
  have hI : RI (F 1) nr nk n td := by
    obtain ⟨-, p, -, hR⟩ := hW
    exact hR.1
  have hb := hI.2.2.2.2.1
  (refine eX8_bring 200 ?_; simp (disch := omega) only [↓wX8_bring_0, ↓wX8_bring_1, ↓wX8_bring_4, ↓wX8_bring_5, ↓wX8_bring_6, ↓wX8_bring_9, ↓wX8_bring_12, ↓wX8_bring_13, ↓wX8_bring_14, ↓wX8_bring_15, ↓wX8_bring_17, ↓wX8_bring_20, ↓wX8_bring_23, zQi_def, zQa_def, zQv_def, nI00, nI10, nI11, nI01, true_or, or_true, false_or, or_false, eq_self, true_implies, false_implies, not_true_eq_false, not_false_eq_true, zc9, zc1, zc2, zc3, zc1000, nI_m9, nI_add, pk_mul, ix_nI, vpT, zk_zpi, zn_zpi, zr_zpi, zk_zpa, zn_zpa, zr_zpa, zsz_zpi, zsz_zpa, zi_zpa, zpi_pa, zpa_zpa, true_and, and_true, and_self, xk])
  refine v_prepare hX hH ?_
  intro h1 z1 o1 p1 s1
  obtain ⟨X1, H1, T1⟩ := pre_keep hX hH hT o1 p1
  obtain ⟨⟨a1, a2, a3, a4, a5⟩, -⟩ := id X1
  obtain ⟨b1, b2, b3⟩ := SP_w X1.2.2.2.1
  have hW1 := WR_tr hW (OUT_same o1 (by omega) (by unfold spA; omega))
  try simp (disch := omega) only [↓wX8_bring_0, ↓wX8_bring_1, ↓wX8_bring_4, ↓wX8_bring_5, ↓wX8_bring_6, ↓wX8_bring_9, ↓wX8_bring_12, ↓wX8_bring_13, ↓wX8_bring_14, ↓wX8_bring_15, ↓wX8_bring_17, ↓wX8_bring_20, ↓wX8_bring_23, zQi_def, zQa_def, zQv_def, nI00, nI10, nI11, nI01, true_or, or_true, false_or, or_false, eq_self, true_implies, false_implies, not_true_eq_false, not_false_eq_true, zc9, zc1, zc2, zc3, zc1000, nI_m9, nI_add, pk_mul, ix_nI, vpT, zk_zpi, zn_zpi, zr_zpi, zk_zpa, zn_zpa, zr_zpa, zsz_zpi, zsz_zpa, zi_zpa, zpi_pa, zpa_zpa, true_and, and_true, and_self, a1, a2, b1, b2, b3]
  refine W_lift hW1 (fun G p hw hR hA => v_planDelivery hw hR hA) ?_
  exact act_fin X1 H1 T1 s1 (OUT_mono o1 (by unfold spA; omega) (by unfold spA; omega)) (tlBri hb.2.1) hq
theorem pb_cancel {E : zE} {Q : Int32 → zH → Prop} {x s L nr nk n td : Nat} {h : zH} {F : Nat → Nat → Int32} {a : Int32} (hC : CI h x F s L) (hW : WR h (x + 1 + 1) (F 1) nr nk n td) (hq : UO Q h x F s L (oCan (F 1) n a)) : zMi E mX8_cancel [.inr x, .inl a] h Q := by
  obtain ⟨hX, ⟨o, hH⟩, hT⟩ := hC
  have xk := hX.1.1
  have hz := hX.2.2.2.2.2.2
  have hI : RI (F 1) nr nk n td := by
    obtain ⟨-, p, -, hR⟩ := hW
    exact hR.1
  have hb := hI.2.2.2.2.1
  (refine eX8_cancel 200 ?_; simp (disch := omega) only [↓wX8_cancel_0, ↓wX8_cancel_1, ↓wX8_cancel_4, ↓wX8_cancel_5, ↓wX8_cancel_6, ↓wX8_cancel_9, ↓wX8_cancel_12, ↓wX8_cancel_13, ↓wX8_cancel_16, ↓wX8_cancel_19, zQi_def, zQa_def, zQv_def, nI00, nI10, nI11, nI01, true_or, or_true, false_or, or_false, eq_self, true_implies, false_implies, not_true_eq_false, not_false_eq_true, zc9, zc1, zc2, zc3, zc1000, nI_m9, nI_add, pk_mul, ix_nI, vpT, zk_zpi, zn_zpi, zr_zpi, zk_zpa, zn_zpa, zr_zpa, zsz_zpi, zsz_zpa, zi_zpa, zpi_pa, zpa_zpa, true_and, and_true, and_self, xk])
  refine v_prepare hX hH ?_
  intro h1 z1 o1 p1 s1
  obtain ⟨X1, H1, T1⟩ := pre_keep hX hH hT o1 p1
  obtain ⟨⟨a1, a2, a3, a4, a5⟩, -⟩ := id X1
  obtain ⟨b1, b2, b3⟩ := SP_w X1.2.2.2.1
  have hW1 := WR_tr hW (OUT_same o1 (by omega) (by unfold spA; omega))
  try simp (disch := omega) only [↓wX8_cancel_0, ↓wX8_cancel_1, ↓wX8_cancel_4, ↓wX8_cancel_5, ↓wX8_cancel_6, ↓wX8_cancel_9, ↓wX8_cancel_12, ↓wX8_cancel_13, ↓wX8_cancel_16, ↓wX8_cancel_19, zQi_def, zQa_def, zQv_def, nI00, nI10, nI11, nI01, true_or, or_true, false_or, or_false, eq_self, true_implies, false_implies, not_true_eq_false, not_false_eq_true, zc9, zc1, zc2, zc3, zc1000, nI_m9, nI_add, pk_mul, ix_nI, vpT, zk_zpi, zn_zpi, zr_zpi, zk_zpa, zn_zpa, zr_zpa, zsz_zpi, zsz_zpa, zi_zpa, zpi_pa, zpa_zpa, true_and, and_true, and_self, a1, a2, b1, b2, b3]
  refine W_lift hW1 (fun G p hw hR hA => v_removeTurn hw hR hA) ?_
  exact act_fin X1 H1 T1 s1 (OUT_mono o1 (by unfold spA; omega) (by unfold spA; omega)) (tlCan hb.2.1) hq
theorem pb_exchange {E : zE} {Q : Int32 → zH → Prop} {x s L nr nk n td : Nat} {h : zH} {F : Nat → Nat → Int32} {a b : Int32} (hC : CI h x F s L) (hW : WR h (x + 1 + 1) (F 1) nr nk n td) (hq : UO Q h x F s L (oExc (F 1) n a b)) : zMi E mX8_exchange [.inr x, .inl a, .inl b] h Q := by
  obtain ⟨hX, ⟨o, hH⟩, hT⟩ := hC
  have xk := hX.1.1
  have hz := hX.2.2.2.2.2.2
  have hI : RI (F 1) nr nk n td := by
    obtain ⟨-, p, -, hR⟩ := hW
    exact hR.1
  have hb := hI.2.2.2.2.1
  (refine eX8_exchange 200 ?_; simp (disch := omega) only [↓wX8_exchange_0, ↓wX8_exchange_1, ↓wX8_exchange_4, ↓wX8_exchange_5, ↓wX8_exchange_6, ↓wX8_exchange_9, ↓wX8_exchange_12, ↓wX8_exchange_13, ↓wX8_exchange_14, ↓wX8_exchange_17, ↓wX8_exchange_20, zQi_def, zQa_def, zQv_def, nI00, nI10, nI11, nI01, true_or, or_true, false_or, or_false, eq_self, true_implies, false_implies, not_true_eq_false, not_false_eq_true, zc9, zc1, zc2, zc3, zc1000, nI_m9, nI_add, pk_mul, ix_nI, vpT, zk_zpi, zn_zpi, zr_zpi, zk_zpa, zn_zpa, zr_zpa, zsz_zpi, zsz_zpa, zi_zpa, zpi_pa, zpa_zpa, true_and, and_true, and_self, xk])
  refine v_prepare hX hH ?_
  intro h1 z1 o1 p1 s1
  obtain ⟨X1, H1, T1⟩ := pre_keep hX hH hT o1 p1
  obtain ⟨⟨a1, a2, a3, a4, a5⟩, -⟩ := id X1
  obtain ⟨b1, b2, b3⟩ := SP_w X1.2.2.2.1
  have hW1 := WR_tr hW (OUT_same o1 (by omega) (by unfold spA; omega))
  try simp (disch := omega) only [↓wX8_exchange_0, ↓wX8_exchange_1, ↓wX8_exchange_4, ↓wX8_exchange_5, ↓wX8_exchange_6, ↓wX8_exchange_9, ↓wX8_exchange_12, ↓wX8_exchange_13, ↓wX8_exchange_14, ↓wX8_exchange_17, ↓wX8_exchange_20, zQi_def, zQa_def, zQv_def, nI00, nI10, nI11, nI01, true_or, or_true, false_or, or_false, eq_self, true_implies, false_implies, not_true_eq_false, not_false_eq_true, zc9, zc1, zc2, zc3, zc1000, nI_m9, nI_add, pk_mul, ix_nI, vpT, zk_zpi, zn_zpi, zr_zpi, zk_zpa, zn_zpa, zr_zpa, zsz_zpi, zsz_zpa, zi_zpa, zpi_pa, zpa_zpa, true_and, and_true, and_self, a1, a2, b1, b2, b3]
  refine W_lift hW1 (fun G p hw hR hA => v_swap hw hR hA) ?_
  exact act_fin X1 H1 T1 s1 (OUT_mono o1 (by unfold spA; omega) (by unfold spA; omega)) (tlExc hb.2.1) hq
theorem pb_pass {E : zE} {Q : Int32 → zH → Prop} {x s L nr nk n td : Nat} {h : zH} {F : Nat → Nat → Int32} {a : Int32} (hC : CI h x F s L) (hW : WR h (x + 1 + 1) (F 1) nr nk n td) (hq : UO Q h x F s L (oPass (F 1) nr nk td a)) : zMi E mX8_pass [.inr x, .inl a] h Q := by
  obtain ⟨hX, ⟨o, hH⟩, hT⟩ := hC
  have xk := hX.1.1
  have hz := hX.2.2.2.2.2.2
  have hI : RI (F 1) nr nk n td := by
    obtain ⟨-, p, -, hR⟩ := hW
    exact hR.1
  have hb := hI.2.2.2.2.1
  (refine eX8_pass 200 ?_; simp (disch := omega) only [↓wX8_pass_0, ↓wX8_pass_1, ↓wX8_pass_4, ↓wX8_pass_5, ↓wX8_pass_6, ↓wX8_pass_9, ↓wX8_pass_12, ↓wX8_pass_13, ↓wX8_pass_16, ↓wX8_pass_19, zQi_def, zQa_def, zQv_def, nI00, nI10, nI11, nI01, true_or, or_true, false_or, or_false, eq_self, true_implies, false_implies, not_true_eq_false, not_false_eq_true, zc9, zc1, zc2, zc3, zc1000, nI_m9, nI_add, pk_mul, ix_nI, vpT, zk_zpi, zn_zpi, zr_zpi, zk_zpa, zn_zpa, zr_zpa, zsz_zpi, zsz_zpa, zi_zpa, zpi_pa, zpa_zpa, true_and, and_true, and_self, xk])
  refine v_prepare hX hH ?_
  intro h1 z1 o1 p1 s1
  obtain ⟨X1, H1, T1⟩ := pre_keep hX hH hT o1 p1
  obtain ⟨⟨a1, a2, a3, a4, a5⟩, -⟩ := id X1
  obtain ⟨b1, b2, b3⟩ := SP_w X1.2.2.2.1
  have hW1 := WR_tr hW (OUT_same o1 (by omega) (by unfold spA; omega))
  try simp (disch := omega) only [↓wX8_pass_0, ↓wX8_pass_1, ↓wX8_pass_4, ↓wX8_pass_5, ↓wX8_pass_6, ↓wX8_pass_9, ↓wX8_pass_12, ↓wX8_pass_13, ↓wX8_pass_16, ↓wX8_pass_19, zQi_def, zQa_def, zQv_def, nI00, nI10, nI11, nI01, true_or, or_true, false_or, or_false, eq_self, true_implies, false_implies, not_true_eq_false, not_false_eq_true, zc9, zc1, zc2, zc3, zc1000, nI_m9, nI_add, pk_mul, ix_nI, vpT, zk_zpi, zn_zpi, zr_zpi, zk_zpa, zn_zpa, zr_zpa, zsz_zpi, zsz_zpa, zi_zpa, zpi_pa, zpa_zpa, true_and, and_true, and_self, a1, a2, b1, b2, b3]
  refine W_lift hW1 (fun G p hw hR hA => v_passDays hw hR hA) ?_
  exact act_fin X1 H1 T1 s1 (OUT_mono o1 (by unfold spA; omega) (by unfold spA; omega)) (tlPass hI) hq
theorem pb_rock {E : zE} {Q : Int32 → zH → Prop} {x s L nr nk n td : Nat} {h : zH} {F : Nat → Nat → Int32} {a b : Int32} (hC : CI h x F s L) (hW : WR h (x + 1 + 1) (F 1) nr nk n td) (hq : Q (qRock (F 1) nr nk n a b) h) : zMi E mX8_rock [.inr x, .inl a, .inl b] h Q := by
  obtain ⟨hX, ⟨o, hH⟩, hT⟩ := hC
  obtain ⟨⟨a1, a2, a3, a4, a5⟩, -⟩ := id hX
  obtain ⟨b1, b2, b3⟩ := SP_w hX.2.2.2.1
  (refine eX8_rock 200 ?_; simp (disch := omega) only [↓wX8_rock_0, ↓wX8_rock_1, ↓wX8_rock_4, ↓wX8_rock_7, ↓wX8_rock_8, ↓wX8_rock_9, ↓wX8_rock_12, zQi_def, zQa_def, zQv_def, nI00, nI10, nI11, nI01, true_or, or_true, false_or, or_false, eq_self, true_implies, false_implies, not_true_eq_false, not_false_eq_true, zc9, zc1, zc2, zc3, zc1000, nI_m9, nI_add, pk_mul, ix_nI, vpT, zk_zpi, zn_zpi, zr_zpi, zk_zpa, zn_zpa, zr_zpa, zsz_zpi, zsz_zpa, zi_zpa, zpi_pa, zpa_zpa, true_and, and_true, and_self, a1, a2, b1, b2, b3])
  refine Q_lift hW (fun G p hw hR hA => v_rockPart hw hR hA) ?_
  try simp (disch := omega) only [↓wX8_rock_0, ↓wX8_rock_1, ↓wX8_rock_4, ↓wX8_rock_7, ↓wX8_rock_8, ↓wX8_rock_9, ↓wX8_rock_12, zQi_def, zQa_def, zQv_def]
  exact hq
theorem pb_store {E : zE} {Q : Int32 → zH → Prop} {x s L nr nk n td : Nat} {h : zH} {F : Nat → Nat → Int32} {a b c : Int32} (hC : CI h x F s L) (hW : WR h (x + 1 + 1) (F 1) nr nk n td) (hq : Q (qSto (F 1) nr nk a b c) h) : zMi E mX8_store [.inr x, .inl a, .inl b, .inl c] h Q := by
  obtain ⟨hX, ⟨o, hH⟩, hT⟩ := hC
  obtain ⟨⟨a1, a2, a3, a4, a5⟩, -⟩ := id hX
  obtain ⟨b1, b2, b3⟩ := SP_w hX.2.2.2.1
  (refine eX8_store 200 ?_; simp (disch := omega) only [↓wX8_store_0, ↓wX8_store_1, ↓wX8_store_4, ↓wX8_store_7, ↓wX8_store_8, ↓wX8_store_9, ↓wX8_store_10, ↓wX8_store_13, zQi_def, zQa_def, zQv_def, nI00, nI10, nI11, nI01, true_or, or_true, false_or, or_false, eq_self, true_implies, false_implies, not_true_eq_false, not_false_eq_true, zc9, zc1, zc2, zc3, zc1000, nI_m9, nI_add, pk_mul, ix_nI, vpT, zk_zpi, zn_zpi, zr_zpi, zk_zpa, zn_zpa, zr_zpa, zsz_zpi, zsz_zpa, zi_zpa, zpi_pa, zpa_zpa, true_and, and_true, and_self, a1, a2, b1, b2, b3])
  refine Q_lift hW (fun G p hw hR hA => v_storePart hw hR hA) ?_
  try simp (disch := omega) only [↓wX8_store_0, ↓wX8_store_1, ↓wX8_store_4, ↓wX8_store_7, ↓wX8_store_8, ↓wX8_store_9, ↓wX8_store_10, ↓wX8_store_13, zQi_def, zQa_def, zQv_def]
  exact hq
theorem pb_keeper {E : zE} {Q : Int32 → zH → Prop} {x s L nr nk n td : Nat} {h : zH} {F : Nat → Nat → Int32} {a b : Int32} (hC : CI h x F s L) (hW : WR h (x + 1 + 1) (F 1) nr nk n td) (hq : Q (qKee (F 1) nk a b) h) : zMi E mX8_keeper [.inr x, .inl a, .inl b] h Q := by
  obtain ⟨hX, ⟨o, hH⟩, hT⟩ := hC
  obtain ⟨⟨a1, a2, a3, a4, a5⟩, -⟩ := id hX
  obtain ⟨b1, b2, b3⟩ := SP_w hX.2.2.2.1
  (refine eX8_keeper 200 ?_; simp (disch := omega) only [↓wX8_keeper_0, ↓wX8_keeper_1, ↓wX8_keeper_4, ↓wX8_keeper_7, ↓wX8_keeper_8, ↓wX8_keeper_9, ↓wX8_keeper_12, zQi_def, zQa_def, zQv_def, nI00, nI10, nI11, nI01, true_or, or_true, false_or, or_false, eq_self, true_implies, false_implies, not_true_eq_false, not_false_eq_true, zc9, zc1, zc2, zc3, zc1000, nI_m9, nI_add, pk_mul, ix_nI, vpT, zk_zpi, zn_zpi, zr_zpi, zk_zpa, zn_zpa, zr_zpa, zsz_zpi, zsz_zpa, zi_zpa, zpi_pa, zpa_zpa, true_and, and_true, and_self, a1, a2, b1, b2, b3])
  refine Q_lift hW (fun G p hw hR hA => v_keeperPart hw hR hA) ?_
  try simp (disch := omega) only [↓wX8_keeper_0, ↓wX8_keeper_1, ↓wX8_keeper_4, ↓wX8_keeper_7, ↓wX8_keeper_8, ↓wX8_keeper_9, ↓wX8_keeper_12, zQi_def, zQa_def, zQv_def]
  exact hq
theorem pb_turn {E : zE} {Q : Int32 → zH → Prop} {x s L nr nk n td : Nat} {h : zH} {F : Nat → Nat → Int32} {a b : Int32} (hC : CI h x F s L) (hW : WR h (x + 1 + 1) (F 1) nr nk n td) (hq : Q (qTur (F 1) n a b) h) : zMi E mX8_turn [.inr x, .inl a, .inl b] h Q := by
  obtain ⟨hX, ⟨o, hH⟩, hT⟩ := hC
  obtain ⟨⟨a1, a2, a3, a4, a5⟩, -⟩ := id hX
  obtain ⟨b1, b2, b3⟩ := SP_w hX.2.2.2.1
  (refine eX8_turn 200 ?_; simp (disch := omega) only [↓wX8_turn_0, ↓wX8_turn_1, ↓wX8_turn_4, ↓wX8_turn_7, ↓wX8_turn_8, ↓wX8_turn_9, ↓wX8_turn_12, zQi_def, zQa_def, zQv_def, nI00, nI10, nI11, nI01, true_or, or_true, false_or, or_false, eq_self, true_implies, false_implies, not_true_eq_false, not_false_eq_true, zc9, zc1, zc2, zc3, zc1000, nI_m9, nI_add, pk_mul, ix_nI, vpT, zk_zpi, zn_zpi, zr_zpi, zk_zpa, zn_zpa, zr_zpa, zsz_zpi, zsz_zpa, zi_zpa, zpi_pa, zpa_zpa, true_and, and_true, and_self, a1, a2, b1, b2, b3])
  refine Q_lift hW (fun G p hw hR hA => v_turnPart hw hR hA) ?_
  try simp (disch := omega) only [↓wX8_turn_0, ↓wX8_turn_1, ↓wX8_turn_4, ↓wX8_turn_7, ↓wX8_turn_8, ↓wX8_turn_9, ↓wX8_turn_12, zQi_def, zQa_def, zQv_def]
  exact hq
theorem pb_sea {E : zE} {Q : Int32 → zH → Prop} {x s L nr nk n td : Nat} {h : zH} {F : Nat → Nat → Int32} {a b : Int32} (hC : CI h x F s L) (hW : WR h (x + 1 + 1) (F 1) nr nk n td) (hq : Q (qSea (F 1) a b) h) : zMi E mX8_sea [.inr x, .inl a, .inl b] h Q := by
  obtain ⟨hX, ⟨o, hH⟩, hT⟩ := hC
  obtain ⟨⟨a1, a2, a3, a4, a5⟩, -⟩ := id hX
  obtain ⟨b1, b2, b3⟩ := SP_w hX.2.2.2.1
  (refine eX8_sea 200 ?_; simp (disch := omega) only [↓wX8_sea_0, ↓wX8_sea_1, ↓wX8_sea_4, ↓wX8_sea_7, ↓wX8_sea_8, ↓wX8_sea_9, ↓wX8_sea_12, zQi_def, zQa_def, zQv_def, nI00, nI10, nI11, nI01, true_or, or_true, false_or, or_false, eq_self, true_implies, false_implies, not_true_eq_false, not_false_eq_true, zc9, zc1, zc2, zc3, zc1000, nI_m9, nI_add, pk_mul, ix_nI, vpT, zk_zpi, zn_zpi, zr_zpi, zk_zpa, zn_zpa, zr_zpa, zsz_zpi, zsz_zpa, zi_zpa, zpi_pa, zpa_zpa, true_and, and_true, and_self, a1, a2, b1, b2, b3])
  refine Q_lift hW (fun G p hw hR hA => v_seaPart hw hR hA) ?_
  try simp (disch := omega) only [↓wX8_sea_0, ↓wX8_sea_1, ↓wX8_sea_4, ↓wX8_sea_7, ↓wX8_sea_8, ↓wX8_sea_9, ↓wX8_sea_12, zQi_def, zQa_def, zQv_def]
  exact hq
theorem pb_landing {E : zE} {Q : Int32 → zH → Prop} {x s L nr nk n td : Nat} {h : zH} {F : Nat → Nat → Int32} {a b : Int32} (hC : CI h x F s L) (hW : WR h (x + 1 + 1) (F 1) nr nk n td) (hq : Q (qLan (F 1) nr a b) h) : zMi E mX8_landing [.inr x, .inl a, .inl b] h Q := by
  obtain ⟨hX, ⟨o, hH⟩, hT⟩ := hC
  obtain ⟨⟨a1, a2, a3, a4, a5⟩, -⟩ := id hX
  obtain ⟨b1, b2, b3⟩ := SP_w hX.2.2.2.1
  (refine eX8_landing 200 ?_; simp (disch := omega) only [↓wX8_landing_0, ↓wX8_landing_1, ↓wX8_landing_4, ↓wX8_landing_7, ↓wX8_landing_8, ↓wX8_landing_9, ↓wX8_landing_12, zQi_def, zQa_def, zQv_def, nI00, nI10, nI11, nI01, true_or, or_true, false_or, or_false, eq_self, true_implies, false_implies, not_true_eq_false, not_false_eq_true, zc9, zc1, zc2, zc3, zc1000, nI_m9, nI_add, pk_mul, ix_nI, vpT, zk_zpi, zn_zpi, zr_zpi, zk_zpa, zn_zpa, zr_zpa, zsz_zpi, zsz_zpa, zi_zpa, zpi_pa, zpa_zpa, true_and, and_true, and_self, a1, a2, b1, b2, b3])
  refine Q_lift hW (fun G p hw hR hA => v_firstLanding hw hR hA) ?_
  try simp (disch := omega) only [↓wX8_landing_0, ↓wX8_landing_1, ↓wX8_landing_4, ↓wX8_landing_7, ↓wX8_landing_8, ↓wX8_landing_9, ↓wX8_landing_12, zQi_def, zQa_def, zQv_def]
  exact hq
theorem pb_lasts {E : zE} {Q : Int32 → zH → Prop} {x s L nr nk n td : Nat} {h : zH} {F : Nat → Nat → Int32} {a b : Int32} (hC : CI h x F s L) (hW : WR h (x + 1 + 1) (F 1) nr nk n td) (hq : Q (qLas (F 1) nr nk a b) h) : zMi E mX8_lasts [.inr x, .inl a, .inl b] h Q := by
  obtain ⟨hX, ⟨o, hH⟩, hT⟩ := hC
  obtain ⟨⟨a1, a2, a3, a4, a5⟩, -⟩ := id hX
  obtain ⟨b1, b2, b3⟩ := SP_w hX.2.2.2.1
  (refine eX8_lasts 200 ?_; simp (disch := omega) only [↓wX8_lasts_0, ↓wX8_lasts_1, ↓wX8_lasts_4, ↓wX8_lasts_7, ↓wX8_lasts_8, ↓wX8_lasts_9, ↓wX8_lasts_12, zQi_def, zQa_def, zQv_def, nI00, nI10, nI11, nI01, true_or, or_true, false_or, or_false, eq_self, true_implies, false_implies, not_true_eq_false, not_false_eq_true, zc9, zc1, zc2, zc3, zc1000, nI_m9, nI_add, pk_mul, ix_nI, vpT, zk_zpi, zn_zpi, zr_zpi, zk_zpa, zn_zpa, zr_zpa, zsz_zpi, zsz_zpa, zi_zpa, zpi_pa, zpa_zpa, true_and, and_true, and_self, a1, a2, b1, b2, b3])
  refine Q_lift hW (fun G p hw hR hA => v_daysEnough hw hR hA) ?_
  try simp (disch := omega) only [↓wX8_lasts_0, ↓wX8_lasts_1, ↓wX8_lasts_4, ↓wX8_lasts_7, ↓wX8_lasts_8, ↓wX8_lasts_9, ↓wX8_lasts_12, zQi_def, zQa_def, zQv_def]
  exact hq
theorem pb_nextOut {E : zE} {Q : Int32 → zH → Prop} {x s L nr nk n td : Nat} {h : zH} {F : Nat → Nat → Int32} (hC : CI h x F s L) (hW : WR h (x + 1 + 1) (F 1) nr nk n td) (hq : Q (nOu (F 1) n nk 0 (-9)) h) : zMi E mX8_nextOut [.inr x] h Q := by
  obtain ⟨hX, ⟨o, hH⟩, hT⟩ := hC
  obtain ⟨⟨a1, a2, a3, a4, a5⟩, -⟩ := id hX
  obtain ⟨b1, b2, b3⟩ := SP_w hX.2.2.2.1
  (refine eX8_nextOut 200 ?_; simp (disch := omega) only [↓wX8_nextOut_0, ↓wX8_nextOut_1, ↓wX8_nextOut_4, ↓wX8_nextOut_7, ↓wX8_nextOut_10, zQi_def, zQa_def, zQv_def, nI00, nI10, nI11, nI01, true_or, or_true, false_or, or_false, eq_self, true_implies, false_implies, not_true_eq_false, not_false_eq_true, zc9, zc1, zc2, zc3, zc1000, nI_m9, nI_add, pk_mul, ix_nI, vpT, zk_zpi, zn_zpi, zr_zpi, zk_zpa, zn_zpa, zr_zpa, zsz_zpi, zsz_zpa, zi_zpa, zpi_pa, zpa_zpa, true_and, and_true, and_self, a1, a2, b1, b2, b3])
  refine Q_lift hW (fun G p hw hR hA => v_nextToGoOut hw hR hA) ?_
  try simp (disch := omega) only [↓wX8_nextOut_0, ↓wX8_nextOut_1, ↓wX8_nextOut_4, ↓wX8_nextOut_7, ↓wX8_nextOut_10, zQi_def, zQa_def, zQv_def]
  exact hq
theorem pb_nextIn {E : zE} {Q : Int32 → zH → Prop} {x s L nr nk n td : Nat} {h : zH} {F : Nat → Nat → Int32} (hC : CI h x F s L) (hW : WR h (x + 1 + 1) (F 1) nr nk n td) (hq : Q (nIn_ (F 1) n nk 0 (-9)) h) : zMi E mX8_nextIn [.inr x] h Q := by
  obtain ⟨hX, ⟨o, hH⟩, hT⟩ := hC
  obtain ⟨⟨a1, a2, a3, a4, a5⟩, -⟩ := id hX
  obtain ⟨b1, b2, b3⟩ := SP_w hX.2.2.2.1
  (refine eX8_nextIn 200 ?_; simp (disch := omega) only [↓wX8_nextIn_0, ↓wX8_nextIn_1, ↓wX8_nextIn_4, ↓wX8_nextIn_7, ↓wX8_nextIn_10, zQi_def, zQa_def, zQv_def, nI00, nI10, nI11, nI01, true_or, or_true, false_or, or_false, eq_self, true_implies, false_implies, not_true_eq_false, not_false_eq_true, zc9, zc1, zc2, zc3, zc1000, nI_m9, nI_add, pk_mul, ix_nI, vpT, zk_zpi, zn_zpi, zr_zpi, zk_zpa, zn_zpa, zr_zpa, zsz_zpi, zsz_zpa, zi_zpa, zpi_pa, zpa_zpa, true_and, and_true, and_self, a1, a2, b1, b2, b3])
  refine Q_lift hW (fun G p hw hR hA => v_nextToComeIn hw hR hA) ?_
  try simp (disch := omega) only [↓wX8_nextIn_0, ↓wX8_nextIn_1, ↓wX8_nextIn_4, ↓wX8_nextIn_7, ↓wX8_nextIn_10, zQi_def, zQa_def, zQv_def]
  exact hq

