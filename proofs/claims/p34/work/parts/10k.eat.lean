/-! The class: eating and earning. -/
def DB2 (G : Nat → Nat → Int32) (r : Nat → Int32) (nr td i : Nat) : Prop := (∀ j, j < nr → ((G (6 + 5 * j) 4 = nI td ∧ r (221 + 20 * j + 4) = nI 1) ∨ (LDo (G (6 + 5 * j) 4) td ∧ r (221 + 20 * j + 4) = nI 0)) ∧ (j < i → G (6 + 5 * j) 3 = r (221 + 20 * j + 3)) ∧ (i ≤ j → G (6 + 5 * j) 3 = r (221 + 20 * j + 3) + r (221 + 20 * j + 4))) ∧ ∀ j, nr ≤ j → j < 3 → LDo (G (6 + 5 * j) 4) td
def EG (G : Nat → Nat → Int32) (r : Nat → Int32) (nr nk td n i : Nat) : Prop := (G 0 0 = nI td ∧ G 0 1 = r 4 ∧ G 0 2 = r 5 ∧ G 0 3 = r 6 ∧ G 0 4 = nI nr ∧ G 0 5 = nI nk ∧ G 0 6 = nI n) ∧ CB G r ∧ (CR3 G r nr ∧ DB2 G r nr td i ∧ CSt G r nr ∧ CFr G nr) ∧ CK G r nk ∧ CKf G nk
theorem EG_of {G : Nat → Nat → Int32} {r : Nat → Int32} {nr nk td n : Nat} {mi : Int32} (h : MG G r nr nk td n mi) (hnr : nr ≤ 3) (hnk : nk ≤ 8) : EG G (zup r 6 (r 6 + mi)) nr nk td n 0 := by
  obtain ⟨⟨c0, c1, c2, c3, c4, c5, c6⟩, ⟨hB1, hB2⟩, ⟨h3, hD, hSt, hFr⟩, hK, hKf⟩ := h
  refine ⟨?_, ⟨fun k hk => ?_, fun k hk => ?_⟩, ⟨fun j hj f hf => ?_, ⟨fun j hj => ⟨?_, fun q => by omega, fun _ => ?_⟩, hD.2⟩, fun j hj s hs f hf => ?_, hFr⟩, fun k hk f hf => ?_, hKf⟩
  · rw [zup_ne (by omega), zup_ne (by omega), zup_eq rfl]; exact ⟨c0, c1, c2, c3, c4, c5, c6⟩
  · rw [zup_ne (by omega)]; exact hB1 k hk
  · rw [zup_ne (by omega)]; exact hB2 k hk
  · rw [zup_ne (by omega)]; exact h3 j hj f hf
  · rw [zup_ne (by omega)]
    exact (hD.1 j hj).imp (fun q => ⟨q.1, q.2.1⟩) (fun q => ⟨q.1, q.2.1⟩)
  · rw [zup_ne (by omega), zup_ne (by omega)]
    rcases hD.1 j hj with ⟨-, e1, e2⟩ | ⟨-, e1, e2⟩
    · rw [e2, e1]
    · rw [e2, e1, i32_add0]
  · rw [zup_ne (by omega)]; exact hSt j hj s hs f hf
  · rw [zup_ne (by omega)]; exact hK k hk f hf
def fdF (f : Nat → Int32) (x : Int32) : Nat → Int32 := zup (zup (zup f 0 (f 0 - lss x (f 0 - f 1))) 2 (f 2 + lss x (f 0 - f 1))) 3 (f 3 + (x - lss x (f 0 - f 1)))
theorem l_fd1 {E : zE} {Q : zH → Prop} {w i s k : Nat} {h : zH} {G : Nat → Nat → Int32} {p : Nat → Nat} {k' n' : Nat} (hw : WS h w) (hi : i < 3) (hs : s < 3) (hk : k ≤ 8)
    (hx : zJ E mX7_eat (zQv Q) 18 [some (.inr w), some (.inl (nI i)), some (.inl (nI k)), some (.inl (nI (s + 1)))] [] (WST h w (zup G (8 + 5 * i + s) (fdF (G (8 + 5 * i + s)) (nd k s))) p) k' n') :
    zJ E mX7_eat (zQv Q) 18 [some (.inr w), some (.inl (nI i)), some (.inl (nI k)), some (.inl (nI s))] [] (WST h w G p) k' n' := by
  obtain ⟨wk, ⟨wr7, wr8, wr9, wr10, wr11⟩, ⟨wk1, wk2, wk3, wk4, wk5⟩, ⟨wn1, wn2, wn3, wn4, wn5⟩, ⟨wRr, wRk, wR5, wRs, wRn⟩, ⟨wSr, wSk⟩, ⟨wKr, wKk⟩, wTk⟩ := id hw
  have hle : ¬ 3 ≤ s := by omega
  (refine jX7_eat 200 ?_; simp (disch := omega) only [↓wX7_eat_0, ↓wX7_eat_1, ↓wX7_eat_2, ↓wX7_eat_3, ↓wX7_eat_4, ↓wX7_eat_7, ↓wX7_eat_10, ↓wX7_eat_11, ↓wX7_eat_12, ↓wX7_eat_15, ↓wX7_eat_16, ↓wX7_eat_17, ↓wX7_eat_18, ↓wX7_eat_19, ↓wX7_eat_20, ↓wX7_eat_23, ↓wX7_eat_24, ↓wX7_eat_27, ↓wX7_eat_28, ↓wX7_eat_29, ↓wX7_eat_32, ↓wX7_eat_33, ↓wX7_eat_34, ↓wX7_eat_35, ↓wX7_eat_36, ↓wX7_eat_39, ↓wX7_eat_42, ↓wX7_eat_45, ↓wX7_eat_48, ↓wX7_eat_51, ↓wX7_eat_54, zQi_def, zQa_def, zQv_def, nI00, nI10, nI11, nI01, true_or, or_true, false_or, or_false, eq_self, true_implies, false_implies, not_true_eq_false, not_false_eq_true, zc9, zc1, zc2, zc3, zc1000, nI_m9, nI_add, pk_mul, ix_nI, vpT, zk_zpi, zn_zpi, zr_zpi, zk_zpa, zn_zpa, zr_zpa, zsz_zpi, zsz_zpa, zi_zpa, zpi_pa, zpa_zpa, true_and, and_true, and_self, zk_WST, zn_WST, zsz_WST, zi_WST, zi_WST0, zr_WST5, zr_WSTN, zpa_WST, zpa_WST0, zpr_WST5, zup2_eq, zup2_ne, zup_eq, zup_ne, q22, q23, q24, q25, q26, q27, zAk26, wk, wr7, wr8, wr9, wr10, wr11, wk1, wk2, wk3, wk4, wk5, wn1, wn2, wn3, wn4, wn5, wRr, wRk, wR5, wRs, wRn, wSr, wSk, wKr, wKk, wTk, nI_leI, hle])
  refine v_need hs hk ?_
  try simp (disch := omega) only [↓wX7_eat_0, ↓wX7_eat_1, ↓wX7_eat_2, ↓wX7_eat_3, ↓wX7_eat_4, ↓wX7_eat_7, ↓wX7_eat_10, ↓wX7_eat_11, ↓wX7_eat_12, ↓wX7_eat_15, ↓wX7_eat_16, ↓wX7_eat_17, ↓wX7_eat_18, ↓wX7_eat_19, ↓wX7_eat_20, ↓wX7_eat_23, ↓wX7_eat_24, ↓wX7_eat_27, ↓wX7_eat_28, ↓wX7_eat_29, ↓wX7_eat_32, ↓wX7_eat_33, ↓wX7_eat_34, ↓wX7_eat_35, ↓wX7_eat_36, ↓wX7_eat_39, ↓wX7_eat_42, ↓wX7_eat_45, ↓wX7_eat_48, ↓wX7_eat_51, ↓wX7_eat_54, zQi_def, zQa_def, zQv_def, nI00, nI10, nI11, nI01, true_or, or_true, false_or, or_false, eq_self, true_implies, false_implies, not_true_eq_false, not_false_eq_true, zc9, zc1, zc2, zc3, zc1000, nI_m9, nI_add, pk_mul, ix_nI, vpT, zk_zpi, zn_zpi, zr_zpi, zk_zpa, zn_zpa, zr_zpa, zsz_zpi, zsz_zpa, zi_zpa, zpi_pa, zpa_zpa, true_and, and_true, and_self, zk_WST, zn_WST, zsz_WST, zi_WST, zi_WST0, zr_WST5, zr_WSTN, zpa_WST, zpa_WST0, zpr_WST5, zup2_eq, zup2_ne, zup_eq, zup_ne, q22, q23, q24, q25, q26, q27, zAk26, wk, wr7, wr8, wr9, wr10, wr11, wk1, wk2, wk3, wk4, wk5, wn1, wn2, wn3, wn4, wn5, wRr, wRk, wR5, wRs, wRn, wSr, wSk, wKr, wKk, wTk]
  refine v_feed (by simp (disch := omega) only [zk_WST, zn_WST, zsz_WST, zi_WST, zi_WST0, zr_WST5, zr_WSTN, zpa_WST, zpa_WST0, zpr_WST5, zup2_eq, zup2_ne, zup_eq, zup_ne, q22, q23, q24, q25, q26, q27, zAk26, wk, wr7, wr8, wr9, wr10, wr11, wk1, wk2, wk3, wk4, wk5, wn1, wn2, wn3, wn4, wn5, wRr, wRk, wR5, wRs, wRn, wSr, wSk, wKr, wKk, wTk]) ?_
  try simp (disch := omega) only [↓wX7_eat_0, ↓wX7_eat_1, ↓wX7_eat_2, ↓wX7_eat_3, ↓wX7_eat_4, ↓wX7_eat_7, ↓wX7_eat_10, ↓wX7_eat_11, ↓wX7_eat_12, ↓wX7_eat_15, ↓wX7_eat_16, ↓wX7_eat_17, ↓wX7_eat_18, ↓wX7_eat_19, ↓wX7_eat_20, ↓wX7_eat_23, ↓wX7_eat_24, ↓wX7_eat_27, ↓wX7_eat_28, ↓wX7_eat_29, ↓wX7_eat_32, ↓wX7_eat_33, ↓wX7_eat_34, ↓wX7_eat_35, ↓wX7_eat_36, ↓wX7_eat_39, ↓wX7_eat_42, ↓wX7_eat_45, ↓wX7_eat_48, ↓wX7_eat_51, ↓wX7_eat_54, zQi_def, zQa_def, zQv_def, nI00, nI10, nI11, nI01, true_or, or_true, false_or, or_false, eq_self, true_implies, false_implies, not_true_eq_false, not_false_eq_true, zc9, zc1, zc2, zc3, zc1000, nI_m9, nI_add, pk_mul, ix_nI, vpT, zk_zpi, zn_zpi, zr_zpi, zk_zpa, zn_zpa, zr_zpa, zsz_zpi, zsz_zpa, zi_zpa, zpi_pa, zpa_zpa, true_and, and_true, and_self, zk_WST, zn_WST, zsz_WST, zi_WST, zi_WST0, zr_WST5, zr_WSTN, zpa_WST, zpa_WST0, zpr_WST5, zup2_eq, zup2_ne, zup_eq, zup_ne, q22, q23, q24, q25, q26, q27, zAk26, wk, wr7, wr8, wr9, wr10, wr11, wk1, wk2, wk3, wk4, wk5, wn1, wn2, wn3, wn4, wn5, wRr, wRk, wR5, wRs, wRn, wSr, wSk, wKr, wKk, wTk]
  exact hx
theorem CSt_fd {G : Nat → Nat → Int32} {r : Nat → Int32} {nr i s k : Nat} (h : CSt G r nr) (hnr : nr ≤ 3) (hi : i < nr) (hs : s < 3) : CSt (zup G (8 + 5 * i + s) (fdF (G (8 + 5 * i + s)) (nd k s))) (ea1 r i s k) nr := by
  have a0 := h i hi s hs 0 (by omega)
  have a1 := h i hi s hs 1 (by omega)
  have a2 := h i hi s hs 2 (by omega)
  have a3 := h i hi s hs 3 (by omega)
  intro j hj u hu f hf
  by_cases e : j = i ∧ u = s
  · obtain ⟨rfl, rfl⟩ := e
    rw [zup_eq rfl]
    unfold fdF ea1
    rw [a0, a1, a2, a3]
    by_cases f3 : f = 3
    · subst f3; rw [zup_eq rfl, zup_eq rfl]
    · rw [zup_ne f3, zup_ne (show 221 + 20 * j + 5 + 5 * u + f ≠ 221 + 20 * j + 5 + 5 * u + 3 by omega)]
      by_cases f2 : f = 2
      · subst f2; rw [zup_eq rfl, zup_eq rfl]
      · rw [zup_ne f2, zup_ne (show 221 + 20 * j + 5 + 5 * u + f ≠ 221 + 20 * j + 5 + 5 * u + 2 by omega)]
        by_cases f0 : f = 0
        · subst f0; rw [zup_eq rfl, zup_eq rfl]
        · rw [zup_ne f0, zup_ne (by omega)]; exact h j hj u hu f hf
  · rw [zup_ne (by omega), ea1_at (by omega)]; exact h j hj u hu f hf
theorem EG_fd {G : Nat → Nat → Int32} {r : Nat → Int32} {nr nk td n i s k : Nat} (h : EG G r nr nk td n i) (hnr : nr ≤ 3) (hnk : nk ≤ 8) (hi : i < nr) (hs : s < 3) : EG (zup G (8 + 5 * i + s) (fdF (G (8 + 5 * i + s)) (nd k s))) (ea1 r i s k) nr nk td n i := by
  obtain ⟨⟨c0, c1, c2, c3, c4, c5, c6⟩, ⟨hB1, hB2⟩, ⟨h3, hD, hSt, hFr⟩, hK, hKf⟩ := h
  refine ⟨?_, ⟨fun k hk => ?_, fun k hk => ?_⟩, ⟨fun j hj f hf => ?_, ⟨fun j hj => ?_, fun j hj hj3 => ?_⟩, CSt_fd hSt hnr hi hs, fun j hj hj3 => ⟨?_, fun s hs f hf => ?_⟩⟩, fun k hk f hf => ?_, fun k hk hk8 => ⟨?_, fun f hf hf7 => ?_⟩⟩
  · rw [zup_ne (by omega), ea1_at (by omega), ea1_at (by omega), ea1_at (by omega)]; exact ⟨c0, c1, c2, c3, c4, c5, c6⟩
  · rw [zup_ne (by omega), ea1_at (by omega)]; exact hB1 k hk
  · rw [zup_ne (by omega), ea1_at (by omega)]; exact hB2 k hk
  · rw [zup_ne (by omega), ea1_at (by omega)]; exact h3 j hj f hf
  · rw [zup_ne (by omega), ea1_at (by omega), ea1_at (by omega)]; exact hD.1 j hj
  · rw [zup_ne (by omega)]; exact hD.2 j hj hj3
  · rw [zup_ne (by omega)]; exact (hFr j hj hj3).1
  · rw [zup_ne (by omega)]; exact (hFr j hj hj3).2 s hs f hf
  · rw [zup_ne (by omega), ea1_at (by omega)]; exact hK k hk f hf
  · rw [zup_ne (by omega)]; exact (hKf k hk hk8).1
  · rw [zup_ne (by omega)]; exact (hKf k hk hk8).2 f hf hf7
theorem EG_db {G : Nat → Nat → Int32} {r : Nat → Int32} {nr nk td n i : Nat} (h : EG G r nr nk td n i) (hnr : nr ≤ 3) (hnk : nk ≤ 8) (hi : i < nr) : EG G (zup r (221 + 20 * i + 3) (r (221 + 20 * i + 3) + r (221 + 20 * i + 4))) nr nk td n (i + 1) := by
  obtain ⟨⟨c0, c1, c2, c3, c4, c5, c6⟩, ⟨hB1, hB2⟩, ⟨h3, hD, hSt, hFr⟩, hK, hKf⟩ := h
  refine ⟨?_, ⟨fun k hk => ?_, fun k hk => ?_⟩, ⟨fun j hj f hf => ?_, ⟨fun j hj => ⟨?_, fun q => ?_, fun q => ?_⟩, hD.2⟩, fun j hj s hs f hf => ?_, hFr⟩, fun k hk f hf => ?_, hKf⟩
  · rw [zup_ne (by omega), zup_ne (by omega), zup_ne (by omega)]; exact ⟨c0, c1, c2, c3, c4, c5, c6⟩
  · rw [zup_ne (by omega)]; exact hB1 k hk
  · rw [zup_ne (by omega)]; exact hB2 k hk
  · rw [zup_ne (by omega)]; exact h3 j hj f hf
  · rw [zup_ne (by omega)]; exact (hD.1 j hj).1
  · by_cases e : j = i
    · subst e; rw [zup_eq rfl]; exact (hD.1 j hj).2.2 (by omega)
    · rw [zup_ne (by omega)]; exact (hD.1 j hj).2.1 (by omega)
  · rw [zup_ne (by omega), zup_ne (by omega)]; exact (hD.1 j hj).2.2 (by omega)
  · rw [zup_ne (by omega)]; exact hSt j hj s hs f hf
  · rw [zup_ne (by omega)]; exact hK k hk f hf
theorem l_eatC {E : zE} {Q : zH → Prop} {w nr nk td n : Nat} {h : zH} {p : Nat → Nat} {k' n' : Nat} (hw : WS h w) (hnr : nr ≤ 3) (hnk : nk ≤ 8) (d : Nat) : ∀ (G : Nat → Nat → Int32) (r : Nat → Int32) (i : Nat) (l2 l3 : Option zV), i + d = nr → EG G r nr nk td n i →
    (∀ G', EG G' (eD nk d r i) nr nk td n nr → (∀ j, 29 ≤ j → G' j = G j) → Q (WST h w G' p)) → zJ E mX7_eat (zQv Q) 2 [some (.inr w), some (.inl (nI i)), l2, l3] [] (WST h w G p) k' n' := by
  obtain ⟨wk, ⟨wr7, wr8, wr9, wr10, wr11⟩, ⟨wk1, wk2, wk3, wk4, wk5⟩, ⟨wn1, wn2, wn3, wn4, wn5⟩, ⟨wRr, wRk, wR5, wRs, wRn⟩, ⟨wSr, wSk⟩, ⟨wKr, wKk⟩, wTk⟩ := id hw
  induction d with
  | zero =>
    intro G r i l2 l3 hd hE hq
    obtain rfl : i = nr := by omega
    obtain ⟨⟨c0, c1, c2, c3, c4, c5, c6⟩, -⟩ := id hE
    (refine jX7_eat 200 ?_; simp (disch := omega) only [↓wX7_eat_0, ↓wX7_eat_1, ↓wX7_eat_2, ↓wX7_eat_3, ↓wX7_eat_4, ↓wX7_eat_7, ↓wX7_eat_10, ↓wX7_eat_11, ↓wX7_eat_12, ↓wX7_eat_15, ↓wX7_eat_16, ↓wX7_eat_17, ↓wX7_eat_18, ↓wX7_eat_19, ↓wX7_eat_20, ↓wX7_eat_23, ↓wX7_eat_24, ↓wX7_eat_27, ↓wX7_eat_28, ↓wX7_eat_29, ↓wX7_eat_32, ↓wX7_eat_33, ↓wX7_eat_34, ↓wX7_eat_35, ↓wX7_eat_36, ↓wX7_eat_39, ↓wX7_eat_42, ↓wX7_eat_45, ↓wX7_eat_48, ↓wX7_eat_51, ↓wX7_eat_54, zQi_def, zQa_def, zQv_def, nI00, nI10, nI11, nI01, true_or, or_true, false_or, or_false, eq_self, true_implies, false_implies, not_true_eq_false, not_false_eq_true, zc9, zc1, zc2, zc3, zc1000, nI_m9, nI_add, pk_mul, ix_nI, vpT, zk_zpi, zn_zpi, zr_zpi, zk_zpa, zn_zpa, zr_zpa, zsz_zpi, zsz_zpa, zi_zpa, zpi_pa, zpa_zpa, true_and, and_true, and_self, zk_WST, zn_WST, zsz_WST, zi_WST, zi_WST0, zr_WST5, zr_WSTN, zpa_WST, zpa_WST0, zpr_WST5, zup2_eq, zup2_ne, zup_eq, zup_ne, q22, q23, q24, q25, q26, q27, zAk26, wk, wr7, wr8, wr9, wr10, wr11, wk1, wk2, wk3, wk4, wk5, wn1, wn2, wn3, wn4, wn5, wRr, wRk, wR5, wRs, wRn, wSr, wSk, wKr, wKk, wTk, nI_leI, c4, Nat.le_refl])
    exact hq G hE (fun _ _ => rfl)
  | succ d ih =>
    intro G r i l2 l3 hd hE hq
    have hle : ¬ nr ≤ i := by omega
    obtain ⟨⟨c0, c1, c2, c3, c4, c5, c6⟩, hB, hR, hK, hKf⟩ := id hE
    have hko := Nat.le_trans (kO_le r (nI i) nk) hnk
    (refine jX7_eat 200 ?_; simp (disch := omega) only [↓wX7_eat_0, ↓wX7_eat_1, ↓wX7_eat_2, ↓wX7_eat_3, ↓wX7_eat_4, ↓wX7_eat_7, ↓wX7_eat_10, ↓wX7_eat_11, ↓wX7_eat_12, ↓wX7_eat_15, ↓wX7_eat_16, ↓wX7_eat_17, ↓wX7_eat_18, ↓wX7_eat_19, ↓wX7_eat_20, ↓wX7_eat_23, ↓wX7_eat_24, ↓wX7_eat_27, ↓wX7_eat_28, ↓wX7_eat_29, ↓wX7_eat_32, ↓wX7_eat_33, ↓wX7_eat_34, ↓wX7_eat_35, ↓wX7_eat_36, ↓wX7_eat_39, ↓wX7_eat_42, ↓wX7_eat_45, ↓wX7_eat_48, ↓wX7_eat_51, ↓wX7_eat_54, zQi_def, zQa_def, zQv_def, nI00, nI10, nI11, nI01, true_or, or_true, false_or, or_false, eq_self, true_implies, false_implies, not_true_eq_false, not_false_eq_true, zc9, zc1, zc2, zc3, zc1000, nI_m9, nI_add, pk_mul, ix_nI, vpT, zk_zpi, zn_zpi, zr_zpi, zk_zpa, zn_zpa, zr_zpa, zsz_zpi, zsz_zpa, zi_zpa, zpi_pa, zpa_zpa, true_and, and_true, and_self, zk_WST, zn_WST, zsz_WST, zi_WST, zi_WST0, zr_WST5, zr_WSTN, zpa_WST, zpa_WST0, zpr_WST5, zup2_eq, zup2_ne, zup_eq, zup_ne, q22, q23, q24, q25, q26, q27, zAk26, wk, wr7, wr8, wr9, wr10, wr11, wk1, wk2, wk3, wk4, wk5, wn1, wn2, wn3, wn4, wn5, wRr, wRk, wR5, wRs, wRn, wSr, wSk, wKr, wKk, wTk, nI_leI, c4, hle])
    refine v_keepersAt hw hnk c5 (CK_1 hK) ?_
    try simp (disch := omega) only [↓wX7_eat_0, ↓wX7_eat_1, ↓wX7_eat_2, ↓wX7_eat_3, ↓wX7_eat_4, ↓wX7_eat_7, ↓wX7_eat_10, ↓wX7_eat_11, ↓wX7_eat_12, ↓wX7_eat_15, ↓wX7_eat_16, ↓wX7_eat_17, ↓wX7_eat_18, ↓wX7_eat_19, ↓wX7_eat_20, ↓wX7_eat_23, ↓wX7_eat_24, ↓wX7_eat_27, ↓wX7_eat_28, ↓wX7_eat_29, ↓wX7_eat_32, ↓wX7_eat_33, ↓wX7_eat_34, ↓wX7_eat_35, ↓wX7_eat_36, ↓wX7_eat_39, ↓wX7_eat_42, ↓wX7_eat_45, ↓wX7_eat_48, ↓wX7_eat_51, ↓wX7_eat_54, zQi_def, zQa_def, zQv_def, nI00, nI10, nI11, nI01, true_or, or_true, false_or, or_false, eq_self, true_implies, false_implies, not_true_eq_false, not_false_eq_true, zc9, zc1, zc2, zc3, zc1000, nI_m9, nI_add, pk_mul, ix_nI, vpT, zk_zpi, zn_zpi, zr_zpi, zk_zpa, zn_zpa, zr_zpa, zsz_zpi, zsz_zpa, zi_zpa, zpi_pa, zpa_zpa, true_and, and_true, and_self, zk_WST, zn_WST, zsz_WST, zi_WST, zi_WST0, zr_WST5, zr_WSTN, zpa_WST, zpa_WST0, zpr_WST5, zup2_eq, zup2_ne, zup_eq, zup_ne, q22, q23, q24, q25, q26, q27, zAk26, wk, wr7, wr8, wr9, wr10, wr11, wk1, wk2, wk3, wk4, wk5, wn1, wn2, wn3, wn4, wn5, wRr, wRk, wR5, wRs, wRn, wSr, wSk, wKr, wKk, wTk]
    refine l_fd1 hw (by omega) (by omega) hko ?_
    refine l_fd1 (s := 1) hw (by omega) (by omega) hko ?_
    refine l_fd1 (s := 2) hw (by omega) (by omega) hko ?_
    (refine jX7_eat 200 ?_; simp (disch := omega) only [↓wX7_eat_0, ↓wX7_eat_1, ↓wX7_eat_2, ↓wX7_eat_3, ↓wX7_eat_4, ↓wX7_eat_7, ↓wX7_eat_10, ↓wX7_eat_11, ↓wX7_eat_12, ↓wX7_eat_15, ↓wX7_eat_16, ↓wX7_eat_17, ↓wX7_eat_18, ↓wX7_eat_19, ↓wX7_eat_20, ↓wX7_eat_23, ↓wX7_eat_24, ↓wX7_eat_27, ↓wX7_eat_28, ↓wX7_eat_29, ↓wX7_eat_32, ↓wX7_eat_33, ↓wX7_eat_34, ↓wX7_eat_35, ↓wX7_eat_36, ↓wX7_eat_39, ↓wX7_eat_42, ↓wX7_eat_45, ↓wX7_eat_48, ↓wX7_eat_51, ↓wX7_eat_54, zQi_def, zQa_def, zQv_def, nI00, nI10, nI11, nI01, true_or, or_true, false_or, or_false, eq_self, true_implies, false_implies, not_true_eq_false, not_false_eq_true, zc9, zc1, zc2, zc3, zc1000, nI_m9, nI_add, pk_mul, ix_nI, vpT, zk_zpi, zn_zpi, zr_zpi, zk_zpa, zn_zpa, zr_zpa, zsz_zpi, zsz_zpa, zi_zpa, zpi_pa, zpa_zpa, true_and, and_true, and_self, nI_leI, Nat.le_refl])
    have e1 := EG_fd (k := kO r (nI i) nk) hE hnr hnk (show i < nr by omega) (show 0 < 3 by omega)
    have e2 := EG_fd (k := kO r (nI i) nk) e1 hnr hnk (show i < nr by omega) (show 1 < 3 by omega)
    have e3 := EG_fd (k := kO r (nI i) nk) e2 hnr hnk (show i < nr by omega) (show 2 < 3 by omega)
    have e4 := EG_db e3 hnr hnk (show i < nr by omega)
    unfold eD eaF at hq
    refine ih _ _ (i + 1) _ _ (by omega) e4 ?_
    intro G' f1 f2
    refine hq G' f1 (fun j hj => ?_)
    rw [f2 j hj, zup_ne (by omega), zup_ne (by omega), zup_ne (by omega)]
theorem v_eat {E : zE} {Q : zH → Prop} {w nr nk td n : Nat} {h : zH} {G : Nat → Nat → Int32} {p : Nat → Nat} {r : Nat → Int32} (hw : WS h w) (hnr : nr ≤ 3) (hnk : nk ≤ 8) (hE : EG G r nr nk td n 0)
    (hq : ∀ G', EG G' (eD nk nr r 0) nr nk td n nr → (∀ j, 29 ≤ j → G' j = G j) → Q (WST h w G' p)) : zMv E mX7_eat [.inr w] (WST h w G p) Q := by
  (refine eX7_eat 200 ?_; simp (disch := omega) only [↓wX7_eat_0, ↓wX7_eat_1, ↓wX7_eat_2, ↓wX7_eat_3, ↓wX7_eat_4, ↓wX7_eat_7, ↓wX7_eat_10, ↓wX7_eat_11, ↓wX7_eat_12, ↓wX7_eat_15, ↓wX7_eat_16, ↓wX7_eat_17, ↓wX7_eat_18, ↓wX7_eat_19, ↓wX7_eat_20, ↓wX7_eat_23, ↓wX7_eat_24, ↓wX7_eat_27, ↓wX7_eat_28, ↓wX7_eat_29, ↓wX7_eat_32, ↓wX7_eat_33, ↓wX7_eat_34, ↓wX7_eat_35, ↓wX7_eat_36, ↓wX7_eat_39, ↓wX7_eat_42, ↓wX7_eat_45, ↓wX7_eat_48, ↓wX7_eat_51, ↓wX7_eat_54, zQi_def, zQa_def, zQv_def, nI00, nI10, nI11, nI01, true_or, or_true, false_or, or_false, eq_self, true_implies, false_implies, not_true_eq_false, not_false_eq_true, zc9, zc1, zc2, zc3, zc1000, nI_m9, nI_add, pk_mul, ix_nI, vpT, zk_zpi, zn_zpi, zr_zpi, zk_zpa, zn_zpa, zr_zpa, zsz_zpi, zsz_zpa, zi_zpa, zpi_pa, zpa_zpa, true_and, and_true, and_self])
  exact l_eatC hw hnr hnk nr G r 0 _ _ (by omega) hE hq
/-- a keeper's bounds -/
def XE (r : Nat → Int32) (nk td i : Nat) : Prop := ∀ k, k < nk → (∃ q, q < 3 ∧ r (281 + 7 * k + 0) = nI q) ∧ (∃ x, x ≤ (if k < i then td + 1 else td) ∧ r (281 + 7 * k + 3) = nI x) ∧ (∃ y, y ≤ 6 * (if k < i then td + 1 else td) ∧ r (281 + 7 * k + 2) = nI y)
theorem XE_s {r : Nat → Int32} {nk td i : Nat} {r' : Nat → Int32} (h : XE r nk td i) (hr : ∀ k, k < nk → k ≠ i → r' (281 + 7 * k + 0) = r (281 + 7 * k + 0) ∧ r' (281 + 7 * k + 3) = r (281 + 7 * k + 3) ∧ r' (281 + 7 * k + 2) = r (281 + 7 * k + 2))
    (hi : (∃ q, q < 3 ∧ r' (281 + 7 * i + 0) = nI q) ∧ (∃ x, x ≤ td + 1 ∧ r' (281 + 7 * i + 3) = nI x) ∧ (∃ y, y ≤ 6 * (td + 1) ∧ r' (281 + 7 * i + 2) = nI y)) : XE r' nk td (i + 1) := by
  intro k hk
  by_cases e : k = i
  · subst e
    rw [if_pos (by omega)]
    exact hi
  · obtain ⟨e1, e2, e3⟩ := hr k hk e
    rw [e1, e2, e3]
    have := h k hk
    by_cases e4 : k < i
    · rw [if_pos e4] at this; rw [if_pos (by omega)]; exact this
    · rw [if_neg e4] at this; rw [if_neg (by omega)]; exact this
theorem EG_rk {G G' : Nat → Nat → Int32} {r r' : Nat → Int32} {nr nk td n k : Nat} (h : EG G r nr nk td n nr) (hnr : nr ≤ 3) (hnk : nk ≤ 8) (hk : k < nk) (hG : ∀ j, j ≠ 21 + k → G' j = G j) (hr : ∀ j, j < 281 + 7 * k ∨ 281 + 7 * k + 7 ≤ j → r' j = r j) (hf : ∀ f, f < 7 → G' (21 + k) f = r' (281 + 7 * k + f)) : EG G' r' nr nk td n nr := by
  obtain ⟨⟨c0, c1, c2, c3, c4, c5, c6⟩, ⟨hB1, hB2⟩, ⟨h3, hD, hSt, hFr⟩, hK, hKf⟩ := h
  refine ⟨?_, ⟨fun k hk => ?_, fun k hk => ?_⟩, ⟨fun j hj f hf => ?_, ⟨fun j hj => ?_, fun j hj hj3 => ?_⟩, fun j hj s hs f hf => ?_, fun j hj hj3 => ⟨?_, fun s hs f hf => ?_⟩⟩, fun q hq f hf7 => ?_, fun q hq hq8 => ⟨?_, fun f hf hf7 => ?_⟩⟩
  · rw [hG _ (by omega), hr _ (by omega), hr _ (by omega), hr _ (by omega)]; exact ⟨c0, c1, c2, c3, c4, c5, c6⟩
  · rw [hG _ (by omega), hr _ (by omega)]; exact hB1 k hk
  · rw [hG _ (by omega), hr _ (by omega)]; exact hB2 k hk
  · rw [hG _ (by omega), hr _ (by omega)]; exact h3 j hj f hf
  · rw [hG _ (by omega), hr _ (by omega), hr _ (by omega)]; exact hD.1 j hj
  · rw [hG _ (by omega)]; exact hD.2 j hj hj3
  · rw [hG _ (by omega), hr _ (by omega)]; exact hSt j hj s hs f hf
  · rw [hG _ (by omega)]; exact (hFr j hj hj3).1
  · rw [hG _ (by omega)]; exact (hFr j hj hj3).2 s hs f hf
  · by_cases e : q = k
    · subst e; exact hf f hf7
    · rw [hG _ (by omega), hr _ (by omega)]; exact hK q hq f hf7
  · rw [hG _ (by omega)]; exact (hKf q hq hq8).1
  · rw [hG _ (by omega)]; exact (hKf q hq hq8).2 f hf hf7
theorem rank_unt {q : Nat} (h : q < 3) : (if nI q = 0 then nI 0 else nI q + nI 1) = nI (unt q) := by
  rcases (show q = 0 ∨ q = 1 ∨ q = 2 by omega) with rfl | rfl | rfl <;> decide
theorem unt_le (q : Nat) : unt q ≤ 3 := by unfold unt; split <;> (try split) <;> omega
theorem l_earnC {E : zE} {Q : zH → Prop} {w nr nk td n : Nat} {h : zH} {p : Nat → Nat} {k' n' : Nat} (hw : WS h w) (hnr : nr ≤ 3) (hnk : nk ≤ 8) (htd : td < 200) (d : Nat) : ∀ (G : Nat → Nat → Int32) (r : Nat → Int32) (i : Nat) (l2 : Option zV), i + d = nk → EG G r nr nk td n nr → KP r nr nk → XE r nk td i →
    (∀ G', EG G' (rK d r i) nr nk td n nr → XE (rK d r i) nk td nk → (∀ j, 29 ≤ j → G' j = G j) → Q (WST h w G' p)) → zJ E mX7_earn (zQv Q) 2 [some (.inr w), some (.inl (nI i)), l2] [] (WST h w G p) k' n' := by
  obtain ⟨wk, ⟨wr7, wr8, wr9, wr10, wr11⟩, ⟨wk1, wk2, wk3, wk4, wk5⟩, ⟨wn1, wn2, wn3, wn4, wn5⟩, ⟨wRr, wRk, wR5, wRs, wRn⟩, ⟨wSr, wSk⟩, ⟨wKr, wKk⟩, wTk⟩ := id hw
  induction d with
  | zero =>
    intro G r i l2 hd hE hP hX hq
    obtain rfl : i = nk := by omega
    obtain ⟨⟨c0, c1, c2, c3, c4, c5, c6⟩, -⟩ := id hE
    (refine jX7_earn 200 ?_; simp (disch := omega) only [↓wX7_earn_0, ↓wX7_earn_1, ↓wX7_earn_2, ↓wX7_earn_3, ↓wX7_earn_4, ↓wX7_earn_7, ↓wX7_earn_10, ↓wX7_earn_11, ↓wX7_earn_14, ↓wX7_earn_15, ↓wX7_earn_16, ↓wX7_earn_17, ↓wX7_earn_18, ↓wX7_earn_19, ↓wX7_earn_22, ↓wX7_earn_25, ↓wX7_earn_28, ↓wX7_earn_29, ↓wX7_earn_30, ↓wX7_earn_33, ↓wX7_earn_34, ↓wX7_earn_37, ↓wX7_earn_38, ↓wX7_earn_41, ↓wX7_earn_42, ↓wX7_earn_45, ↓wX7_earn_48, ↓wX7_earn_49, ↓wX7_earn_52, ↓wX7_earn_53, ↓wX7_earn_56, ↓wX7_earn_59, ↓wX7_earn_60, ↓wX7_earn_63, ↓wX7_earn_66, ↓wX7_earn_69, zQi_def, zQa_def, zQv_def, nI00, nI10, nI11, nI01, true_or, or_true, false_or, or_false, eq_self, true_implies, false_implies, not_true_eq_false, not_false_eq_true, zc9, zc1, zc2, zc3, zc1000, nI_m9, nI_add, pk_mul, ix_nI, vpT, zk_zpi, zn_zpi, zr_zpi, zk_zpa, zn_zpa, zr_zpa, zsz_zpi, zsz_zpa, zi_zpa, zpi_pa, zpa_zpa, true_and, and_true, and_self, zk_WST, zn_WST, zsz_WST, zi_WST, zi_WST0, zr_WST5, zr_WSTN, zpa_WST, zpa_WST0, zpr_WST5, zup2_eq, zup2_ne, zup_eq, zup_ne, q22, q23, q24, q25, q26, q27, zAk26, wk, wr7, wr8, wr9, wr10, wr11, wk1, wk2, wk3, wk4, wk5, wn1, wn2, wn3, wn4, wn5, wRr, wRk, wR5, wRs, wRn, wSr, wSk, wKr, wKk, wTk, nI_leI, c5, Nat.le_refl])
    exact hq G hE hX (fun _ _ => rfl)
  | succ d ih =>
    intro G r i l2 hd hE hP hX hq
    have hle : ¬ nk ≤ i := by omega
    have hi8 : i < nk := by omega
    obtain ⟨⟨c0, c1, c2, c3, c4, c5, c6⟩, hB, ⟨h3, hD, hSt, hFr⟩, hK, hKf⟩ := id hE
    have p0 := hK i hi8 0 (by omega)
    have p1 := hK i hi8 1 (by omega)
    have p2 := hK i hi8 2 (by omega)
    have p3 := hK i hi8 3 (by omega)
    have p4 := hK i hi8 4 (by omega)
    have p5 := hK i hi8 5 (by omega)
    have p6 := hK i hi8 6 (by omega)
    obtain ⟨⟨rq, hrq, erq⟩, ⟨x, hx, ex⟩, ⟨y, hy, ey⟩⟩ := hX i hi8
    rw [if_neg (by omega)] at hx hy
    have huq := unt_le rq
    unfold rK at hq
    have hoth : ∀ k, k < nk → k ≠ i → rkF r i (281 + 7 * k + 0) = r (281 + 7 * k + 0) ∧ rkF r i (281 + 7 * k + 3) = r (281 + 7 * k + 3) ∧ rkF r i (281 + 7 * k + 2) = r (281 + 7 * k + 2) := fun k hk hne => ⟨rkF_at (by omega), rkF_at (by omega), rkF_at (by omega)⟩
    have fin : ∀ (g : Nat → Int32), (∀ f, f < 7 → g f = rkF r i (281 + 7 * i + f)) → ((∃ q, q < 3 ∧ rkF r i (281 + 7 * i + 0) = nI q) ∧ (∃ x, x ≤ td + 1 ∧ rkF r i (281 + 7 * i + 3) = nI x) ∧ (∃ y, y ≤ 6 * (td + 1) ∧ rkF r i (281 + 7 * i + 2) = nI y)) →
        ∀ l2, zJ E mX7_earn (zQv Q) 2 [some (.inr w), some (.inl (nI (i + 1))), l2] [] (WST h w (zup G (21 + i) g) p) k' n' := by
      intro g hg hxe l2
      refine ih _ (rkF r i) (i + 1) l2 (by omega) (EG_rk hE hnr hnk hi8 (fun j hj => zup_ne hj) (fun j hj => rkF_at (by omega)) (fun f hf => by rw [zup_eq rfl]; exact hg f hf)) (KP_of (fun k hk => rkF_at (by omega)) hP) (XE_s hX hoth hxe) ?_
      intro G' f1 f2 f3
      exact hq G' f1 f2 (fun j hj => by rw [f3 j hj, zup_ne (by omega)])
    (refine jX7_earn 200 ?_; simp (disch := omega) only [↓wX7_earn_0, ↓wX7_earn_1, ↓wX7_earn_2, ↓wX7_earn_3, ↓wX7_earn_4, ↓wX7_earn_7, ↓wX7_earn_10, ↓wX7_earn_11, ↓wX7_earn_14, ↓wX7_earn_15, ↓wX7_earn_16, ↓wX7_earn_17, ↓wX7_earn_18, ↓wX7_earn_19, ↓wX7_earn_22, ↓wX7_earn_25, ↓wX7_earn_28, ↓wX7_earn_29, ↓wX7_earn_30, ↓wX7_earn_33, ↓wX7_earn_34, ↓wX7_earn_37, ↓wX7_earn_38, ↓wX7_earn_41, ↓wX7_earn_42, ↓wX7_earn_45, ↓wX7_earn_48, ↓wX7_earn_49, ↓wX7_earn_52, ↓wX7_earn_53, ↓wX7_earn_56, ↓wX7_earn_59, ↓wX7_earn_60, ↓wX7_earn_63, ↓wX7_earn_66, ↓wX7_earn_69, zQi_def, zQa_def, zQv_def, nI00, nI10, nI11, nI01, true_or, or_true, false_or, or_false, eq_self, true_implies, false_implies, not_true_eq_false, not_false_eq_true, zc9, zc1, zc2, zc3, zc1000, nI_m9, nI_add, pk_mul, ix_nI, vpT, zk_zpi, zn_zpi, zr_zpi, zk_zpa, zn_zpa, zr_zpa, zsz_zpi, zsz_zpa, zi_zpa, zpi_pa, zpa_zpa, true_and, and_true, and_self, zk_WST, zn_WST, zsz_WST, zi_WST, zi_WST0, zr_WST5, zr_WSTN, zpa_WST, zpa_WST0, zpr_WST5, zup2_eq, zup2_ne, zup_eq, zup_ne, q22, q23, q24, q25, q26, q27, zAk26, wk, wr7, wr8, wr9, wr10, wr11, wk1, wk2, wk3, wk4, wk5, wn1, wn2, wn3, wn4, wn5, wRr, wRk, wR5, wRs, wRn, wSr, wSk, wKr, wKk, wTk, nI_leI, c5, hle, p1])
    refine v_hasRock hw hnr c4 ?_
    rcases hP i hi8 with hp9 | ⟨j, hj, hpj⟩
    · have hn9 : ¬ inN (-9) nr = true := by rw [inN_def, i32_m9]; omega
      rw [hp9]
      simp (disch := omega) only [zb_f hn9, ↓wX7_earn_0, ↓wX7_earn_1, ↓wX7_earn_2, ↓wX7_earn_3, ↓wX7_earn_4, ↓wX7_earn_7, ↓wX7_earn_10, ↓wX7_earn_11, ↓wX7_earn_14, ↓wX7_earn_15, ↓wX7_earn_16, ↓wX7_earn_17, ↓wX7_earn_18, ↓wX7_earn_19, ↓wX7_earn_22, ↓wX7_earn_25, ↓wX7_earn_28, ↓wX7_earn_29, ↓wX7_earn_30, ↓wX7_earn_33, ↓wX7_earn_34, ↓wX7_earn_37, ↓wX7_earn_38, ↓wX7_earn_41, ↓wX7_earn_42, ↓wX7_earn_45, ↓wX7_earn_48, ↓wX7_earn_49, ↓wX7_earn_52, ↓wX7_earn_53, ↓wX7_earn_56, ↓wX7_earn_59, ↓wX7_earn_60, ↓wX7_earn_63, ↓wX7_earn_66, ↓wX7_earn_69, zQi_def, zQa_def, zQv_def, nI00, nI10, nI11, nI01, true_or, or_true, false_or, or_false, eq_self, true_implies, false_implies, not_true_eq_false, not_false_eq_true, zc9, zc1, zc2, zc3, zc1000, nI_m9, nI_add, pk_mul, ix_nI, vpT, zk_zpi, zn_zpi, zr_zpi, zk_zpa, zn_zpa, zr_zpa, zsz_zpi, zsz_zpa, zi_zpa, zpi_pa, zpa_zpa, true_and, and_true, and_self, zk_WST, zn_WST, zsz_WST, zi_WST, zi_WST0, zr_WST5, zr_WSTN, zpa_WST, zpa_WST0, zpr_WST5, zup2_eq, zup2_ne, zup_eq, zup_ne, q22, q23, q24, q25, q26, q27, zAk26, wk, wr7, wr8, wr9, wr10, wr11, wk1, wk2, wk3, wk4, wk5, wn1, wn2, wn3, wn4, wn5, wRr, wRk, wR5, wRs, wRn, wSr, wSk, wKr, wKk, wTk]
      have hrk : rkF r i = if nI 4 ≤ r (281 + 7 * i + 2) then zup (zup r (281 + 7 * i + 2) (r (281 + 7 * i + 2) - nI 4)) (281 + 7 * i + 5) (r (281 + 7 * i + 5) + nI 1) else zup r (281 + 7 * i + 6) (r (281 + 7 * i + 6) + nI 1) := by
        unfold rkF; rw [if_pos hp9]
      refine v_dayAsh (by simp (disch := omega) only [zk_WST, zn_WST, zsz_WST, zi_WST, zi_WST0, zr_WST5, zr_WSTN, zpa_WST, zpa_WST0, zpr_WST5, zup2_eq, zup2_ne, zup_eq, zup_ne, q22, q23, q24, q25, q26, q27, zAk26, wk, wr7, wr8, wr9, wr10, wr11, wk1, wk2, wk3, wk4, wk5, wn1, wn2, wn3, wn4, wn5, wRr, wRk, wR5, wRs, wRn, wSr, wSk, wKr, wKk, wTk]) (fun h4 => ?_) (fun h4 => ?_)
      · simp (disch := omega) only [zk_WST, zn_WST, zsz_WST, zi_WST, zi_WST0, zr_WST5, zr_WSTN, zpa_WST, zpa_WST0, zpr_WST5, zup2_eq, zup2_ne, zup_eq, zup_ne, q22, q23, q24, q25, q26, q27, zAk26, p2] at h4
        simp (disch := omega) only [↓wX7_earn_0, ↓wX7_earn_1, ↓wX7_earn_2, ↓wX7_earn_3, ↓wX7_earn_4, ↓wX7_earn_7, ↓wX7_earn_10, ↓wX7_earn_11, ↓wX7_earn_14, ↓wX7_earn_15, ↓wX7_earn_16, ↓wX7_earn_17, ↓wX7_earn_18, ↓wX7_earn_19, ↓wX7_earn_22, ↓wX7_earn_25, ↓wX7_earn_28, ↓wX7_earn_29, ↓wX7_earn_30, ↓wX7_earn_33, ↓wX7_earn_34, ↓wX7_earn_37, ↓wX7_earn_38, ↓wX7_earn_41, ↓wX7_earn_42, ↓wX7_earn_45, ↓wX7_earn_48, ↓wX7_earn_49, ↓wX7_earn_52, ↓wX7_earn_53, ↓wX7_earn_56, ↓wX7_earn_59, ↓wX7_earn_60, ↓wX7_earn_63, ↓wX7_earn_66, ↓wX7_earn_69, zQi_def, zQa_def, zQv_def, nI00, nI10, nI11, nI01, true_or, or_true, false_or, or_false, eq_self, true_implies, false_implies, not_true_eq_false, not_false_eq_true, zc9, zc1, zc2, zc3, zc1000, nI_m9, nI_add, pk_mul, ix_nI, vpT, zk_zpi, zn_zpi, zr_zpi, zk_zpa, zn_zpa, zr_zpa, zsz_zpi, zsz_zpa, zi_zpa, zpi_pa, zpa_zpa, true_and, and_true, and_self, zk_WST, zn_WST, zsz_WST, zi_WST, zi_WST0, zr_WST5, zr_WSTN, zpa_WST, zpa_WST0, zpr_WST5, zup2_eq, zup2_ne, zup_eq, zup_ne, q22, q23, q24, q25, q26, q27, zAk26, wk, wr7, wr8, wr9, wr10, wr11, wk1, wk2, wk3, wk4, wk5, wn1, wn2, wn3, wn4, wn5, wRr, wRk, wR5, wRs, wRn, wSr, wSk, wKr, wKk, wTk, p2, p5]
        rw [if_pos h4] at hrk
        rw [ey, i32le, nIn (by omega), nIn (by omega)] at h4
        refine fin _ (fun f hf => ?_) ⟨?_, ?_, ?_⟩ _
        · rw [hrk]
          by_cases f5 : f = 5
          · subst f5; rw [zup_eq rfl, zup_eq rfl]
          · rw [zup_ne f5, zup_ne (show 281 + 7 * i + f ≠ 281 + 7 * i + 5 by omega)]
            by_cases f2 : f = 2
            · subst f2; rw [zup_eq rfl, zup_eq rfl]
            · rw [zup_ne f2, zup_ne (by omega)]; exact hK i hi8 f hf
        · rw [hrk]; simp (disch := omega) only [zup_ne]; exact ⟨rq, hrq, erq⟩
        · rw [hrk]; simp (disch := omega) only [zup_ne]; exact ⟨x, by omega, ex⟩
        · rw [hrk]; simp (disch := omega) only [zup_eq, zup_ne]; exact ⟨y - 4, by omega, by rw [ey, pk_sub (by omega)]⟩
      · simp (disch := omega) only [zk_WST, zn_WST, zsz_WST, zi_WST, zi_WST0, zr_WST5, zr_WSTN, zpa_WST, zpa_WST0, zpr_WST5, zup2_eq, zup2_ne, zup_eq, zup_ne, q22, q23, q24, q25, q26, q27, zAk26, p2] at h4
        simp (disch := omega) only [↓wX7_earn_0, ↓wX7_earn_1, ↓wX7_earn_2, ↓wX7_earn_3, ↓wX7_earn_4, ↓wX7_earn_7, ↓wX7_earn_10, ↓wX7_earn_11, ↓wX7_earn_14, ↓wX7_earn_15, ↓wX7_earn_16, ↓wX7_earn_17, ↓wX7_earn_18, ↓wX7_earn_19, ↓wX7_earn_22, ↓wX7_earn_25, ↓wX7_earn_28, ↓wX7_earn_29, ↓wX7_earn_30, ↓wX7_earn_33, ↓wX7_earn_34, ↓wX7_earn_37, ↓wX7_earn_38, ↓wX7_earn_41, ↓wX7_earn_42, ↓wX7_earn_45, ↓wX7_earn_48, ↓wX7_earn_49, ↓wX7_earn_52, ↓wX7_earn_53, ↓wX7_earn_56, ↓wX7_earn_59, ↓wX7_earn_60, ↓wX7_earn_63, ↓wX7_earn_66, ↓wX7_earn_69, zQi_def, zQa_def, zQv_def, nI00, nI10, nI11, nI01, true_or, or_true, false_or, or_false, eq_self, true_implies, false_implies, not_true_eq_false, not_false_eq_true, zc9, zc1, zc2, zc3, zc1000, nI_m9, nI_add, pk_mul, ix_nI, vpT, zk_zpi, zn_zpi, zr_zpi, zk_zpa, zn_zpa, zr_zpa, zsz_zpi, zsz_zpa, zi_zpa, zpi_pa, zpa_zpa, true_and, and_true, and_self, zk_WST, zn_WST, zsz_WST, zi_WST, zi_WST0, zr_WST5, zr_WSTN, zpa_WST, zpa_WST0, zpr_WST5, zup2_eq, zup2_ne, zup_eq, zup_ne, q22, q23, q24, q25, q26, q27, zAk26, wk, wr7, wr8, wr9, wr10, wr11, wk1, wk2, wk3, wk4, wk5, wn1, wn2, wn3, wn4, wn5, wRr, wRk, wR5, wRs, wRn, wSr, wSk, wKr, wKk, wTk, p6]
        rw [if_neg h4] at hrk
        refine fin _ (fun f hf => ?_) ⟨?_, ?_, ?_⟩ _
        · rw [hrk]
          by_cases f6 : f = 6
          · subst f6; rw [zup_eq rfl, zup_eq rfl]
          · rw [zup_ne f6, zup_ne (by omega)]; exact hK i hi8 f hf
        · rw [hrk]; simp (disch := omega) only [zup_ne]; exact ⟨rq, hrq, erq⟩
        · rw [hrk]; simp (disch := omega) only [zup_ne]; exact ⟨x, by omega, ex⟩
        · rw [hrk]; simp (disch := omega) only [zup_ne]; exact ⟨y, by omega, ey⟩
    · rw [hpj]
      simp (disch := omega) only [zb_t (show inN (nI j) nr = true from by rw [inN_nI (by omega)]; exact hj), ↓wX7_earn_0, ↓wX7_earn_1, ↓wX7_earn_2, ↓wX7_earn_3, ↓wX7_earn_4, ↓wX7_earn_7, ↓wX7_earn_10, ↓wX7_earn_11, ↓wX7_earn_14, ↓wX7_earn_15, ↓wX7_earn_16, ↓wX7_earn_17, ↓wX7_earn_18, ↓wX7_earn_19, ↓wX7_earn_22, ↓wX7_earn_25, ↓wX7_earn_28, ↓wX7_earn_29, ↓wX7_earn_30, ↓wX7_earn_33, ↓wX7_earn_34, ↓wX7_earn_37, ↓wX7_earn_38, ↓wX7_earn_41, ↓wX7_earn_42, ↓wX7_earn_45, ↓wX7_earn_48, ↓wX7_earn_49, ↓wX7_earn_52, ↓wX7_earn_53, ↓wX7_earn_56, ↓wX7_earn_59, ↓wX7_earn_60, ↓wX7_earn_63, ↓wX7_earn_66, ↓wX7_earn_69, zQi_def, zQa_def, zQv_def, nI00, nI10, nI11, nI01, true_or, or_true, false_or, or_false, eq_self, true_implies, false_implies, not_true_eq_false, not_false_eq_true, zc9, zc1, zc2, zc3, zc1000, nI_m9, nI_add, pk_mul, ix_nI, vpT, zk_zpi, zn_zpi, zr_zpi, zk_zpa, zn_zpa, zr_zpa, zsz_zpi, zsz_zpa, zi_zpa, zpi_pa, zpa_zpa, true_and, and_true, and_self, zk_WST, zn_WST, zsz_WST, zi_WST, zi_WST0, zr_WST5, zr_WSTN, zpa_WST, zpa_WST0, zpr_WST5, zup2_eq, zup2_ne, zup_eq, zup_ne, q22, q23, q24, q25, q26, q27, zAk26, wk, wr7, wr8, wr9, wr10, wr11, wk1, wk2, wk3, wk4, wk5, wn1, wn2, wn3, wn4, wn5, wRr, wRk, wR5, wRs, wRn, wSr, wSk, wKr, wKk, wTk, p1, hpj, c0]
      have hrk : rkF r i = zup (zup (zup r (281 + 7 * i + 3) (nI x + nI 1)) (281 + 7 * i + 4) (r (281 + 7 * i + 4) + r (221 + 20 * j + 4))) (281 + 7 * i + 2) (nI y + nI (unt rq) * (nI 1 + r (221 + 20 * j + 4))) := by
        unfold rkF
        rw [if_neg (by rw [hpj, nI_m9 (by omega)]; exact fun q => q), hpj, ixx_nI (by omega), ex, ey, erq, rank_unt hrq]
      have hk0 : zi (WST h w G p) (w + (21 + i)) 0 = nI rq := by simp (disch := omega) only [zk_WST, zn_WST, zsz_WST, zi_WST, zi_WST0, zr_WST5, zr_WSTN, zpa_WST, zpa_WST0, zpr_WST5, zup2_eq, zup2_ne, zup_eq, zup_ne, q22, q23, q24, q25, q26, q27, zAk26]; rw [p0, erq]
      have hgen : ∀ b : Bool, r (221 + 20 * j + 4) = (if b then nI 1 else nI 0) → ∀ l2, zJ E mX7_earn (zQv Q) 2 [some (.inr w), some (.inl (nI (i + 1))), l2] [] (WST h w (zup G (21 + i) (zup (zup (zup (G (21 + i)) 3 (G (21 + i) 3 + nI 1)) 4 (G (21 + i) 4 + (if b then nI 1 else nI 0))) 2 (G (21 + i) 2 + nI (unt rq) * (nI 1 + (if b then nI 1 else nI 0))))) p) k' n' := by
        intro b hb l2
        rw [hb] at hrk
        refine fin _ (fun f hf => ?_) ⟨?_, ?_, ?_⟩ _
        · rw [hrk, p2, p3, p4, ex, ey]
          by_cases f2 : f = 2
          · subst f2; rw [zup_eq rfl, zup_eq rfl]
          · rw [zup_ne f2, zup_ne (show 281 + 7 * i + f ≠ 281 + 7 * i + 2 by omega)]
            by_cases f4 : f = 4
            · subst f4; rw [zup_eq rfl, zup_eq rfl]
            · rw [zup_ne f4, zup_ne (show 281 + 7 * i + f ≠ 281 + 7 * i + 4 by omega)]
              by_cases f3 : f = 3
              · subst f3; rw [zup_eq rfl, zup_eq rfl]
              · rw [zup_ne f3, zup_ne (by omega)]; exact hK i hi8 f hf
        · rw [hrk]; simp (disch := omega) only [zup_ne]; exact ⟨rq, hrq, erq⟩
        · rw [hrk]; simp (disch := omega) only [zup_eq, zup_ne]; exact ⟨x + 1, by omega, by rw [nI_add]⟩
        · rw [hrk]; simp (disch := omega) only [zup_eq]
          cases b
          · refine ⟨y + unt rq, by omega, ?_⟩
            simp only [Bool.false_eq_true, if_false]
            rw [show nI 1 + nI 0 = (1 : Int32) from rfl, Int32.mul_one, nI_add]
          · refine ⟨y + unt rq * 2, by omega, ?_⟩
            simp only [if_true]
            rw [nI_add, pk_mul, nI_add]
      rcases (hD.1 j hj).1 with ⟨d1, d2⟩ | ⟨d1, d2⟩
      · simp (disch := omega) only [d1, nI00, nI10, nI11, nI01, true_or, or_true, false_or, or_false, eq_self, true_implies, false_implies, not_true_eq_false, not_false_eq_true, zc9, zc1, zc2, zc3, zc1000, nI_m9, nI_add, pk_mul, ix_nI, vpT, zk_zpi, zn_zpi, zr_zpi, zk_zpa, zn_zpa, zr_zpa, zsz_zpi, zsz_zpa, zi_zpa, zpi_pa, zpa_zpa, true_and, and_true, and_self]
        refine v_dayOut (k := rq) (by simp (disch := omega) only [zk_WST, zn_WST, zsz_WST, zi_WST, zi_WST0, zr_WST5, zr_WSTN, zpa_WST, zpa_WST0, zpr_WST5, zup2_eq, zup2_ne, zup_eq, zup_ne, q22, q23, q24, q25, q26, q27, zAk26, wk, wr7, wr8, wr9, wr10, wr11, wk1, wk2, wk3, wk4, wk5, wn1, wn2, wn3, wn4, wn5, wRr, wRk, wR5, wRs, wRn, wSr, wSk, wKr, wKk, wTk]) hk0 hrq true ?_
        have := hgen true (by rw [d2]; rfl)
        try simp (disch := omega) only [↓wX7_earn_0, ↓wX7_earn_1, ↓wX7_earn_2, ↓wX7_earn_3, ↓wX7_earn_4, ↓wX7_earn_7, ↓wX7_earn_10, ↓wX7_earn_11, ↓wX7_earn_14, ↓wX7_earn_15, ↓wX7_earn_16, ↓wX7_earn_17, ↓wX7_earn_18, ↓wX7_earn_19, ↓wX7_earn_22, ↓wX7_earn_25, ↓wX7_earn_28, ↓wX7_earn_29, ↓wX7_earn_30, ↓wX7_earn_33, ↓wX7_earn_34, ↓wX7_earn_37, ↓wX7_earn_38, ↓wX7_earn_41, ↓wX7_earn_42, ↓wX7_earn_45, ↓wX7_earn_48, ↓wX7_earn_49, ↓wX7_earn_52, ↓wX7_earn_53, ↓wX7_earn_56, ↓wX7_earn_59, ↓wX7_earn_60, ↓wX7_earn_63, ↓wX7_earn_66, ↓wX7_earn_69, zQi_def, zQa_def, zQv_def, nI00, nI10, nI11, nI01, true_or, or_true, false_or, or_false, eq_self, true_implies, false_implies, not_true_eq_false, not_false_eq_true, zc9, zc1, zc2, zc3, zc1000, nI_m9, nI_add, pk_mul, ix_nI, vpT, zk_zpi, zn_zpi, zr_zpi, zk_zpa, zn_zpa, zr_zpa, zsz_zpi, zsz_zpa, zi_zpa, zpi_pa, zpa_zpa, true_and, and_true, and_self, zk_WST, zn_WST, zsz_WST, zi_WST, zi_WST0, zr_WST5, zr_WSTN, zpa_WST, zpa_WST0, zpr_WST5, zup2_eq, zup2_ne, zup_eq, zup_ne, q22, q23, q24, q25, q26, q27, zAk26, wk, wr7, wr8, wr9, wr10, wr11, wk1, wk2, wk3, wk4, wk5, wn1, wn2, wn3, wn4, wn5, wRr, wRk, wR5, wRs, wRn, wSr, wSk, wKr, wKk, wTk]
        exact this _
      · have dn : ¬ G (6 + 5 * j) 4 = nI td := by
          intro e
          rw [e] at d1
          rcases d1 with d1 | ⟨d', q1, q2⟩
          · rw [nI_m9 (by omega)] at d1; exact d1
          · have := nIinj (by omega) (by omega) q2; omega
        simp (disch := omega) only [dn, nI00, nI10, nI11, nI01, true_or, or_true, false_or, or_false, eq_self, true_implies, false_implies, not_true_eq_false, not_false_eq_true, zc9, zc1, zc2, zc3, zc1000, nI_m9, nI_add, pk_mul, ix_nI, vpT, zk_zpi, zn_zpi, zr_zpi, zk_zpa, zn_zpa, zr_zpa, zsz_zpi, zsz_zpa, zi_zpa, zpi_pa, zpa_zpa, true_and, and_true, and_self]
        refine v_dayOut (k := rq) (by simp (disch := omega) only [zk_WST, zn_WST, zsz_WST, zi_WST, zi_WST0, zr_WST5, zr_WSTN, zpa_WST, zpa_WST0, zpr_WST5, zup2_eq, zup2_ne, zup_eq, zup_ne, q22, q23, q24, q25, q26, q27, zAk26, wk, wr7, wr8, wr9, wr10, wr11, wk1, wk2, wk3, wk4, wk5, wn1, wn2, wn3, wn4, wn5, wRr, wRk, wR5, wRs, wRn, wSr, wSk, wKr, wKk, wTk]) hk0 hrq false ?_
        have := hgen false (by rw [d2]; rfl)
        try simp (disch := omega) only [↓wX7_earn_0, ↓wX7_earn_1, ↓wX7_earn_2, ↓wX7_earn_3, ↓wX7_earn_4, ↓wX7_earn_7, ↓wX7_earn_10, ↓wX7_earn_11, ↓wX7_earn_14, ↓wX7_earn_15, ↓wX7_earn_16, ↓wX7_earn_17, ↓wX7_earn_18, ↓wX7_earn_19, ↓wX7_earn_22, ↓wX7_earn_25, ↓wX7_earn_28, ↓wX7_earn_29, ↓wX7_earn_30, ↓wX7_earn_33, ↓wX7_earn_34, ↓wX7_earn_37, ↓wX7_earn_38, ↓wX7_earn_41, ↓wX7_earn_42, ↓wX7_earn_45, ↓wX7_earn_48, ↓wX7_earn_49, ↓wX7_earn_52, ↓wX7_earn_53, ↓wX7_earn_56, ↓wX7_earn_59, ↓wX7_earn_60, ↓wX7_earn_63, ↓wX7_earn_66, ↓wX7_earn_69, zQi_def, zQa_def, zQv_def, nI00, nI10, nI11, nI01, true_or, or_true, false_or, or_false, eq_self, true_implies, false_implies, not_true_eq_false, not_false_eq_true, zc9, zc1, zc2, zc3, zc1000, nI_m9, nI_add, pk_mul, ix_nI, vpT, zk_zpi, zn_zpi, zr_zpi, zk_zpa, zn_zpa, zr_zpa, zsz_zpi, zsz_zpa, zi_zpa, zpi_pa, zpa_zpa, true_and, and_true, and_self, zk_WST, zn_WST, zsz_WST, zi_WST, zi_WST0, zr_WST5, zr_WSTN, zpa_WST, zpa_WST0, zpr_WST5, zup2_eq, zup2_ne, zup_eq, zup_ne, q22, q23, q24, q25, q26, q27, zAk26, wk, wr7, wr8, wr9, wr10, wr11, wk1, wk2, wk3, wk4, wk5, wn1, wn2, wn3, wn4, wn5, wRr, wRk, wR5, wRs, wRn, wSr, wSk, wKr, wKk, wTk]
        exact this _
theorem v_earn {E : zE} {Q : zH → Prop} {w nr nk td n : Nat} {h : zH} {G : Nat → Nat → Int32} {p : Nat → Nat} {r : Nat → Int32} (hw : WS h w) (hnr : nr ≤ 3) (hnk : nk ≤ 8) (htd : td < 200) (hE : EG G r nr nk td n nr) (hP : KP r nr nk) (hX : XE r nk td 0)
    (hq : ∀ G', EG G' (rK nk r 0) nr nk td n nr → XE (rK nk r 0) nk td nk → (∀ j, 29 ≤ j → G' j = G j) → Q (WST h w G' p)) : zMv E mX7_earn [.inr w] (WST h w G p) Q := by
  (refine eX7_earn 200 ?_; simp (disch := omega) only [↓wX7_earn_0, ↓wX7_earn_1, ↓wX7_earn_2, ↓wX7_earn_3, ↓wX7_earn_4, ↓wX7_earn_7, ↓wX7_earn_10, ↓wX7_earn_11, ↓wX7_earn_14, ↓wX7_earn_15, ↓wX7_earn_16, ↓wX7_earn_17, ↓wX7_earn_18, ↓wX7_earn_19, ↓wX7_earn_22, ↓wX7_earn_25, ↓wX7_earn_28, ↓wX7_earn_29, ↓wX7_earn_30, ↓wX7_earn_33, ↓wX7_earn_34, ↓wX7_earn_37, ↓wX7_earn_38, ↓wX7_earn_41, ↓wX7_earn_42, ↓wX7_earn_45, ↓wX7_earn_48, ↓wX7_earn_49, ↓wX7_earn_52, ↓wX7_earn_53, ↓wX7_earn_56, ↓wX7_earn_59, ↓wX7_earn_60, ↓wX7_earn_63, ↓wX7_earn_66, ↓wX7_earn_69, zQi_def, zQa_def, zQv_def, nI00, nI10, nI11, nI01, true_or, or_true, false_or, or_false, eq_self, true_implies, false_implies, not_true_eq_false, not_false_eq_true, zc9, zc1, zc2, zc3, zc1000, nI_m9, nI_add, pk_mul, ix_nI, vpT, zk_zpi, zn_zpi, zr_zpi, zk_zpa, zn_zpa, zr_zpa, zsz_zpi, zsz_zpa, zi_zpa, zpi_pa, zpa_zpa, true_and, and_true, and_self])
  exact l_earnC hw hnr hnk htd nk G r 0 _ (by omega) hE hP hX hq

