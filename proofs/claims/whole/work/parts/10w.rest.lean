/-! The class: the rest of a command. -/
def rr (tx : Nat → Int32) (L : Nat) : Nat → Nat → Nat × Nat × Bool
  | 0, e => (tokS tx L e, tokE tx L (tokS tx L e), isWb tx (tokS tx L e) (tokE tx L (tokS tx L e)) 8)
  | d + 1, e => if okN tx (tokS tx L e) (tokE tx L (tokS tx L e)) = true then rr tx L d (tokE tx L (tokS tx L e)) else (tokS tx L e, tokE tx L (tokS tx L e), false)
def ep (tx : Nat → Int32) (L e : Nat) : Nat → Nat
  | 0 => e
  | k + 1 => tokE tx L (tokS tx L (ep tx L e k))
def nv (tx : Nat → Int32) (L e k : Nat) : Int32 := vl tx (tokS tx L (ep tx L e k)) (ep tx L e (k + 1) - tokS tx L (ep tx L e k))
theorem ep_le {tx : Nat → Int32} {L e : Nat} (h : e ≤ L) : ∀ k, ep tx L e k ≤ L
  | 0 => h
  | k + 1 => (tokE_le (tokS_le (ep_le h k)).2).2.1
theorem rr_le {tx : Nat → Int32} {L : Nat} (d : Nat) : ∀ e, e ≤ L → e ≤ (rr tx L d e).1 ∧ (rr tx L d e).1 ≤ (rr tx L d e).2.1 ∧ (rr tx L d e).2.1 ≤ L ∧ ((rr tx L d e).2.2 = true → e < (rr tx L d e).2.1) := by
  induction d with
  | zero =>
    intro e he
    have h1 := tokS_le (tx := tx) he
    have h2 := tokE_le (tx := tx) h1.2
    refine ⟨h1.1, h2.1, h2.2.1, fun q => ?_⟩
    have q' : isWb tx (tokS tx L e) (tokE tx L (tokS tx L e)) 8 = true := q
    rw [isWb_def] at q'
    have : zSl 8 = 1 := rfl
    show e < tokE tx L (tokS tx L e)
    omega
  | succ d ih =>
    intro e he
    have h1 := tokS_le (tx := tx) he
    have h2 := tokE_le (tx := tx) h1.2
    unfold rr
    split
    · have := ih _ h2.2.1
      exact ⟨by omega, this.2.1, this.2.2.1, fun q => by have := this.2.2.2 q; omega⟩
    · exact ⟨h1.1, h2.1, h2.2.1, fun q => absurd q Bool.false_ne_true⟩
def RD (h h' : zH) (a : Nat) (tx : Nat → Int32) (L s e : Nat) : Prop := (zk h' = zk h ∧ zn h' = zn h ∧ zr h' = zr h ∧ zsz h' = zsz h) ∧ (∀ c, c ≠ a → c ≠ a + 2 → zi h' c = zi h c) ∧ TS h' a tx L ∧ zi h' a 3 = nI s ∧ zi h' a 4 = nI e
theorem RD_cur {h h' : zH} {a L s e s' e' : Nat} {tx : Nat → Int32} (hR : RD h h' a tx L s e) : RD h (cur h' a s' e') a tx L s' e' :=
  ⟨hR.1, fun c h1 h2 => by rw [zi_curN _ h1]; exact hR.2.1 c h1 h2, TS_cur hR.2.2.1, zi_cur3 _ _ _ _, zi_cur4 _ _ _ _⟩
theorem RD_num {h h' : zH} {a L s e : Nat} {tx : Nat → Int32} {g : Nat → Int32} (hR : RD h h' a tx L s e) : RD h (zpa h' (a + 2) g) a tx L s e := by
  obtain ⟨h1, h2, ⟨h3, h4, h5, h6⟩, h7, h8⟩ := hR
  refine ⟨h1, fun c c1 c2 => ?_, ⟨h3, ?_, h5, fun k hk => ?_⟩, ?_, ?_⟩
  · rw [zi_zpaN _ _ c2]; exact h2 c c1 c2
  · rw [zi_zpaN _ _ (by omega)]; exact h4
  · rw [zi_zpaN _ _ (by omega)]; exact h6 k hk
  · rw [zi_zpaN _ _ (by omega)]; exact h7
  · rw [zi_zpaN _ _ (by omega)]; exact h8
theorem l_rest {E : zE} {Q : Int32 → zH → Prop} {a L e0 m : Nat} {l1 : Option zV} {h0 : zH} {tx : Nat → Int32} {k' n' : Nat} (hm : m ≤ 4) (d : Nat) : ∀ p s h, p + d = m → RD h0 h a tx L s (ep tx L e0 p) → e0 ≤ L → (∀ k, k < p → zi h (a + 2) k = nv tx L e0 k) →
    (∀ h', RD h0 h' a tx L (rr tx L d (ep tx L e0 p)).1 (rr tx L d (ep tx L e0 p)).2.1 → ((rr tx L d (ep tx L e0 p)).2.2 = true → ∀ k, k < m → zi h' (a + 2) k = nv tx L e0 k) → Q (zb ((rr tx L d (ep tx L e0 p)).2.2 = true)) h') →
    zJ E mX5_readRest (zQi Q) 18 [some (.inr a), l1, some (.inl (nI m)), some (.inl (nI p))] [] h k' n' := by
  induction d with
  | zero =>
    intro p s h hp hR he hN hq
    obtain rfl : p = m := by omega
    have hT := hR.2.2.1
    obtain ⟨⟨t1, t2, t3, t4, t5, t6, t7⟩, t8, t9, t10⟩ := id hT
    have hle : p ≤ p := Nat.le_refl p
    (refine jX5_readRest 200 ?_; simp (disch := omega) only [↓wX5_readRest_0, ↓wX5_readRest_1, ↓wX5_readRest_4, ↓wX5_readRest_5, ↓wX5_readRest_6, ↓wX5_readRest_7, ↓wX5_readRest_8, ↓wX5_readRest_11, ↓wX5_readRest_14, ↓wX5_readRest_15, ↓wX5_readRest_16, ↓wX5_readRest_17, ↓wX5_readRest_18, ↓wX5_readRest_19, ↓wX5_readRest_20, ↓wX5_readRest_23, ↓wX5_readRest_24, ↓wX5_readRest_27, ↓wX5_readRest_28, ↓wX5_readRest_29, ↓wX5_readRest_32, ↓wX5_readRest_33, ↓wX5_readRest_34, ↓wX5_readRest_37, ↓wX5_readRest_38, ↓wX5_readRest_39, ↓wX5_readRest_42, ↓wX5_readRest_43, ↓wX5_readRest_44, ↓wX5_readRest_46, ↓wX5_readRest_49, ↓wX5_readRest_50, ↓wX5_readRest_51, ↓wX5_readRest_54, ↓wX5_readRest_57, ↓wX5_readRest_58, ↓wX5_readRest_61, ↓wX5_readRest_62, ↓wX5_readRest_63, ↓wX5_readRest_65, ↓wX5_readRest_68, zQi_def, zQa_def, zQv_def, nI00, nI10, nI11, nI01, true_or, or_true, false_or, or_false, eq_self, true_implies, false_implies, not_true_eq_false, not_false_eq_true, zc9, zc1, zc2, zc3, zc1000, nI_m9, nI_add, pk_mul, ix_nI, vpT, zk_zpi, zn_zpi, zr_zpi, zk_zpa, zn_zpa, zr_zpa, zsz_zpi, zsz_zpa, zi_zpa, zpi_pa, zpa_zpa, true_and, and_true, and_self, t1, nI_leI, hle])
    refine v_readToken hT hR.2.2.2.2 (ep_le he p) ?_
    have h1 := tokS_le (tx := tx) (ep_le (tx := tx) he p)
    have h2 := tokE_le (tx := tx) h1.2
    try simp (disch := omega) only [↓wX5_readRest_0, ↓wX5_readRest_1, ↓wX5_readRest_4, ↓wX5_readRest_5, ↓wX5_readRest_6, ↓wX5_readRest_7, ↓wX5_readRest_8, ↓wX5_readRest_11, ↓wX5_readRest_14, ↓wX5_readRest_15, ↓wX5_readRest_16, ↓wX5_readRest_17, ↓wX5_readRest_18, ↓wX5_readRest_19, ↓wX5_readRest_20, ↓wX5_readRest_23, ↓wX5_readRest_24, ↓wX5_readRest_27, ↓wX5_readRest_28, ↓wX5_readRest_29, ↓wX5_readRest_32, ↓wX5_readRest_33, ↓wX5_readRest_34, ↓wX5_readRest_37, ↓wX5_readRest_38, ↓wX5_readRest_39, ↓wX5_readRest_42, ↓wX5_readRest_43, ↓wX5_readRest_44, ↓wX5_readRest_46, ↓wX5_readRest_49, ↓wX5_readRest_50, ↓wX5_readRest_51, ↓wX5_readRest_54, ↓wX5_readRest_57, ↓wX5_readRest_58, ↓wX5_readRest_61, ↓wX5_readRest_62, ↓wX5_readRest_63, ↓wX5_readRest_65, ↓wX5_readRest_68, zQi_def, zQa_def, zQv_def, nI00, nI10, nI11, nI01, true_or, or_true, false_or, or_false, eq_self, true_implies, false_implies, not_true_eq_false, not_false_eq_true, zc9, zc1, zc2, zc3, zc1000, nI_m9, nI_add, pk_mul, ix_nI, vpT, zk_zpi, zn_zpi, zr_zpi, zk_zpa, zn_zpa, zr_zpa, zsz_zpi, zsz_zpa, zi_zpa, zpi_pa, zpa_zpa, true_and, and_true, and_self, zk_cur, t1]
    refine v_is (TS_cur hT) (zi_cur3 _ _ _ _) (zi_cur4 _ _ _ _) h2.1 h2.2.1 (by omega) ?_
    try simp (disch := omega) only [↓wX5_readRest_0, ↓wX5_readRest_1, ↓wX5_readRest_4, ↓wX5_readRest_5, ↓wX5_readRest_6, ↓wX5_readRest_7, ↓wX5_readRest_8, ↓wX5_readRest_11, ↓wX5_readRest_14, ↓wX5_readRest_15, ↓wX5_readRest_16, ↓wX5_readRest_17, ↓wX5_readRest_18, ↓wX5_readRest_19, ↓wX5_readRest_20, ↓wX5_readRest_23, ↓wX5_readRest_24, ↓wX5_readRest_27, ↓wX5_readRest_28, ↓wX5_readRest_29, ↓wX5_readRest_32, ↓wX5_readRest_33, ↓wX5_readRest_34, ↓wX5_readRest_37, ↓wX5_readRest_38, ↓wX5_readRest_39, ↓wX5_readRest_42, ↓wX5_readRest_43, ↓wX5_readRest_44, ↓wX5_readRest_46, ↓wX5_readRest_49, ↓wX5_readRest_50, ↓wX5_readRest_51, ↓wX5_readRest_54, ↓wX5_readRest_57, ↓wX5_readRest_58, ↓wX5_readRest_61, ↓wX5_readRest_62, ↓wX5_readRest_63, ↓wX5_readRest_65, ↓wX5_readRest_68, zQi_def, zQa_def, zQv_def, nI00, nI10, nI11, nI01, true_or, or_true, false_or, or_false, eq_self, true_implies, false_implies, not_true_eq_false, not_false_eq_true, zc9, zc1, zc2, zc3, zc1000, nI_m9, nI_add, pk_mul, ix_nI, vpT, zk_zpi, zn_zpi, zr_zpi, zk_zpa, zn_zpa, zr_zpa, zsz_zpi, zsz_zpa, zi_zpa, zpi_pa, zpa_zpa, true_and, and_true, and_self]
    refine ⟨by simp only [zb_01], ?_⟩
    refine hq _ (RD_cur hR) (fun _ k hk => ?_)
    rw [zi_curN _ (by omega)]
    exact hN k hk
  | succ d ih =>
    intro p s h hp hR he hN hq
    have hT := hR.2.2.1
    obtain ⟨⟨t1, t2, t3, t4, t5, t6, t7⟩, t8, t9, t10⟩ := id hT
    have hle : ¬ m ≤ p := by omega
    (refine jX5_readRest 200 ?_; simp (disch := omega) only [↓wX5_readRest_0, ↓wX5_readRest_1, ↓wX5_readRest_4, ↓wX5_readRest_5, ↓wX5_readRest_6, ↓wX5_readRest_7, ↓wX5_readRest_8, ↓wX5_readRest_11, ↓wX5_readRest_14, ↓wX5_readRest_15, ↓wX5_readRest_16, ↓wX5_readRest_17, ↓wX5_readRest_18, ↓wX5_readRest_19, ↓wX5_readRest_20, ↓wX5_readRest_23, ↓wX5_readRest_24, ↓wX5_readRest_27, ↓wX5_readRest_28, ↓wX5_readRest_29, ↓wX5_readRest_32, ↓wX5_readRest_33, ↓wX5_readRest_34, ↓wX5_readRest_37, ↓wX5_readRest_38, ↓wX5_readRest_39, ↓wX5_readRest_42, ↓wX5_readRest_43, ↓wX5_readRest_44, ↓wX5_readRest_46, ↓wX5_readRest_49, ↓wX5_readRest_50, ↓wX5_readRest_51, ↓wX5_readRest_54, ↓wX5_readRest_57, ↓wX5_readRest_58, ↓wX5_readRest_61, ↓wX5_readRest_62, ↓wX5_readRest_63, ↓wX5_readRest_65, ↓wX5_readRest_68, zQi_def, zQa_def, zQv_def, nI00, nI10, nI11, nI01, true_or, or_true, false_or, or_false, eq_self, true_implies, false_implies, not_true_eq_false, not_false_eq_true, zc9, zc1, zc2, zc3, zc1000, nI_m9, nI_add, pk_mul, ix_nI, vpT, zk_zpi, zn_zpi, zr_zpi, zk_zpa, zn_zpa, zr_zpa, zsz_zpi, zsz_zpa, zi_zpa, zpi_pa, zpa_zpa, true_and, and_true, and_self, t1, nI_leI, hle])
    refine v_readToken hT hR.2.2.2.2 (ep_le he p) ?_
    have h1 := tokS_le (tx := tx) (ep_le (tx := tx) he p)
    have h2 := tokE_le (tx := tx) h1.2
    try simp (disch := omega) only [↓wX5_readRest_0, ↓wX5_readRest_1, ↓wX5_readRest_4, ↓wX5_readRest_5, ↓wX5_readRest_6, ↓wX5_readRest_7, ↓wX5_readRest_8, ↓wX5_readRest_11, ↓wX5_readRest_14, ↓wX5_readRest_15, ↓wX5_readRest_16, ↓wX5_readRest_17, ↓wX5_readRest_18, ↓wX5_readRest_19, ↓wX5_readRest_20, ↓wX5_readRest_23, ↓wX5_readRest_24, ↓wX5_readRest_27, ↓wX5_readRest_28, ↓wX5_readRest_29, ↓wX5_readRest_32, ↓wX5_readRest_33, ↓wX5_readRest_34, ↓wX5_readRest_37, ↓wX5_readRest_38, ↓wX5_readRest_39, ↓wX5_readRest_42, ↓wX5_readRest_43, ↓wX5_readRest_44, ↓wX5_readRest_46, ↓wX5_readRest_49, ↓wX5_readRest_50, ↓wX5_readRest_51, ↓wX5_readRest_54, ↓wX5_readRest_57, ↓wX5_readRest_58, ↓wX5_readRest_61, ↓wX5_readRest_62, ↓wX5_readRest_63, ↓wX5_readRest_65, ↓wX5_readRest_68, zQi_def, zQa_def, zQv_def, nI00, nI10, nI11, nI01, true_or, or_true, false_or, or_false, eq_self, true_implies, false_implies, not_true_eq_false, not_false_eq_true, zc9, zc1, zc2, zc3, zc1000, nI_m9, nI_add, pk_mul, ix_nI, vpT, zk_zpi, zn_zpi, zr_zpi, zk_zpa, zn_zpa, zr_zpa, zsz_zpi, zsz_zpa, zi_zpa, zpi_pa, zpa_zpa, true_and, and_true, and_self, zk_cur, zr_cur, zn_cur, t1, t3, t6, t7]
    refine v_number (TS_cur hT) (zi_cur3 _ _ _ _) (zi_cur4 _ _ _ _) h2.1 h2.2.1 ?_
    have hR' := RD_cur (s' := tokS tx L (ep tx L e0 p)) (e' := tokE tx L (tokS tx L (ep tx L e0 p))) hR
    unfold rr at hq
    by_cases ok : okN tx (tokS tx L (ep tx L e0 p)) (tokE tx L (tokS tx L (ep tx L e0 p))) = true
    · rw [if_pos ok] at hq ⊢
      have n9 := vl_9 ok
      try simp (disch := omega) only [↓wX5_readRest_0, ↓wX5_readRest_1, ↓wX5_readRest_4, ↓wX5_readRest_5, ↓wX5_readRest_6, ↓wX5_readRest_7, ↓wX5_readRest_8, ↓wX5_readRest_11, ↓wX5_readRest_14, ↓wX5_readRest_15, ↓wX5_readRest_16, ↓wX5_readRest_17, ↓wX5_readRest_18, ↓wX5_readRest_19, ↓wX5_readRest_20, ↓wX5_readRest_23, ↓wX5_readRest_24, ↓wX5_readRest_27, ↓wX5_readRest_28, ↓wX5_readRest_29, ↓wX5_readRest_32, ↓wX5_readRest_33, ↓wX5_readRest_34, ↓wX5_readRest_37, ↓wX5_readRest_38, ↓wX5_readRest_39, ↓wX5_readRest_42, ↓wX5_readRest_43, ↓wX5_readRest_44, ↓wX5_readRest_46, ↓wX5_readRest_49, ↓wX5_readRest_50, ↓wX5_readRest_51, ↓wX5_readRest_54, ↓wX5_readRest_57, ↓wX5_readRest_58, ↓wX5_readRest_61, ↓wX5_readRest_62, ↓wX5_readRest_63, ↓wX5_readRest_65, ↓wX5_readRest_68, zQi_def, zQa_def, zQv_def, nI00, nI10, nI11, nI01, true_or, or_true, false_or, or_false, eq_self, true_implies, false_implies, not_true_eq_false, not_false_eq_true, zc9, zc1, zc2, zc3, zc1000, nI_m9, nI_add, pk_mul, ix_nI, vpT, zk_zpi, zn_zpi, zr_zpi, zk_zpa, zn_zpa, zr_zpa, zsz_zpi, zsz_zpa, zi_zpa, zpi_pa, zpa_zpa, true_and, and_true, and_self, zk_cur, zr_cur, zn_cur, t1, t3, t6, t7, zup_eq, n9]
      refine ih (p + 1) _ _ (by omega) (RD_num hR') he (fun k hk => ?_) hq
      rw [zi_zpa]
      by_cases hk' : k = p
      · subst hk'; rw [zup_eq rfl]; rfl
      · rw [zup_ne hk', zi_curN _ (by omega)]; exact hN k (by omega)
    · rw [if_neg ok] at hq ⊢
      try simp (disch := omega) only [↓wX5_readRest_0, ↓wX5_readRest_1, ↓wX5_readRest_4, ↓wX5_readRest_5, ↓wX5_readRest_6, ↓wX5_readRest_7, ↓wX5_readRest_8, ↓wX5_readRest_11, ↓wX5_readRest_14, ↓wX5_readRest_15, ↓wX5_readRest_16, ↓wX5_readRest_17, ↓wX5_readRest_18, ↓wX5_readRest_19, ↓wX5_readRest_20, ↓wX5_readRest_23, ↓wX5_readRest_24, ↓wX5_readRest_27, ↓wX5_readRest_28, ↓wX5_readRest_29, ↓wX5_readRest_32, ↓wX5_readRest_33, ↓wX5_readRest_34, ↓wX5_readRest_37, ↓wX5_readRest_38, ↓wX5_readRest_39, ↓wX5_readRest_42, ↓wX5_readRest_43, ↓wX5_readRest_44, ↓wX5_readRest_46, ↓wX5_readRest_49, ↓wX5_readRest_50, ↓wX5_readRest_51, ↓wX5_readRest_54, ↓wX5_readRest_57, ↓wX5_readRest_58, ↓wX5_readRest_61, ↓wX5_readRest_62, ↓wX5_readRest_63, ↓wX5_readRest_65, ↓wX5_readRest_68, zQi_def, zQa_def, zQv_def, nI00, nI10, nI11, nI01, true_or, or_true, false_or, or_false, eq_self, true_implies, false_implies, not_true_eq_false, not_false_eq_true, zc9, zc1, zc2, zc3, zc1000, nI_m9, nI_add, pk_mul, ix_nI, vpT, zk_zpi, zn_zpi, zr_zpi, zk_zpa, zn_zpa, zr_zpa, zsz_zpi, zsz_zpa, zi_zpa, zpi_pa, zpa_zpa, true_and, and_true, and_self, zk_cur, zr_cur, zn_cur, t1, t3, t6, t7, zup_eq]
      have := hq _ (RD_num (g := zup (zi (cur h a (tokS tx L (ep tx L e0 p)) (tokE tx L (tokS tx L (ep tx L e0 p)))) (a + 2)) p (-9)) hR') (fun q => absurd q Bool.false_ne_true)
      rw [zb_f Bool.false_ne_true] at this
      exact this
theorem v_readRest {E : zE} {Q : Int32 → zH → Prop} {a L s e w : Nat} {h : zH} {tx : Nat → Int32} (hT : TS h a tx L) (h3 : zi h a 3 = nI s) (h4 : zi h a 4 = nI e) (he : e ≤ L) (hw : w < 8)
    (hq : ∀ h', RD h h' a tx L (rr tx L (nw w) e).1 (rr tx L (nw w) e).2.1 → ((rr tx L (nw w) e).2.2 = true → ∀ k, k < nw w → zi h' (a + 2) k = nv tx L e k) → Q (zb ((rr tx L (nw w) e).2.2 = true)) h') :
    zMi E mX5_readRest [.inr a, .inl (wdC w)] h Q := by
  (refine eX5_readRest 200 ?_; simp (disch := omega) only [↓wX5_readRest_0, ↓wX5_readRest_1, ↓wX5_readRest_4, ↓wX5_readRest_5, ↓wX5_readRest_6, ↓wX5_readRest_7, ↓wX5_readRest_8, ↓wX5_readRest_11, ↓wX5_readRest_14, ↓wX5_readRest_15, ↓wX5_readRest_16, ↓wX5_readRest_17, ↓wX5_readRest_18, ↓wX5_readRest_19, ↓wX5_readRest_20, ↓wX5_readRest_23, ↓wX5_readRest_24, ↓wX5_readRest_27, ↓wX5_readRest_28, ↓wX5_readRest_29, ↓wX5_readRest_32, ↓wX5_readRest_33, ↓wX5_readRest_34, ↓wX5_readRest_37, ↓wX5_readRest_38, ↓wX5_readRest_39, ↓wX5_readRest_42, ↓wX5_readRest_43, ↓wX5_readRest_44, ↓wX5_readRest_46, ↓wX5_readRest_49, ↓wX5_readRest_50, ↓wX5_readRest_51, ↓wX5_readRest_54, ↓wX5_readRest_57, ↓wX5_readRest_58, ↓wX5_readRest_61, ↓wX5_readRest_62, ↓wX5_readRest_63, ↓wX5_readRest_65, ↓wX5_readRest_68, zQi_def, zQa_def, zQv_def, nI00, nI10, nI11, nI01, true_or, or_true, false_or, or_false, eq_self, true_implies, false_implies, not_true_eq_false, not_false_eq_true, zc9, zc1, zc2, zc3, zc1000, nI_m9, nI_add, pk_mul, ix_nI, vpT, zk_zpi, zn_zpi, zr_zpi, zk_zpa, zn_zpa, zr_zpa, zsz_zpi, zsz_zpa, zi_zpa, zpi_pa, zpa_zpa, true_and, and_true, and_self])
  refine v_numbersBehind (by omega) ?_
  have hn : 1 ≤ nw w ∧ nw w ≤ 4 := by unfold nw; (repeat' split) <;> omega
  rw [if_pos hw]
  try simp (disch := omega) only [↓wX5_readRest_0, ↓wX5_readRest_1, ↓wX5_readRest_4, ↓wX5_readRest_5, ↓wX5_readRest_6, ↓wX5_readRest_7, ↓wX5_readRest_8, ↓wX5_readRest_11, ↓wX5_readRest_14, ↓wX5_readRest_15, ↓wX5_readRest_16, ↓wX5_readRest_17, ↓wX5_readRest_18, ↓wX5_readRest_19, ↓wX5_readRest_20, ↓wX5_readRest_23, ↓wX5_readRest_24, ↓wX5_readRest_27, ↓wX5_readRest_28, ↓wX5_readRest_29, ↓wX5_readRest_32, ↓wX5_readRest_33, ↓wX5_readRest_34, ↓wX5_readRest_37, ↓wX5_readRest_38, ↓wX5_readRest_39, ↓wX5_readRest_42, ↓wX5_readRest_43, ↓wX5_readRest_44, ↓wX5_readRest_46, ↓wX5_readRest_49, ↓wX5_readRest_50, ↓wX5_readRest_51, ↓wX5_readRest_54, ↓wX5_readRest_57, ↓wX5_readRest_58, ↓wX5_readRest_61, ↓wX5_readRest_62, ↓wX5_readRest_63, ↓wX5_readRest_65, ↓wX5_readRest_68, zQi_def, zQa_def, zQv_def, nI00, nI10, nI11, nI01, true_or, or_true, false_or, or_false, eq_self, true_implies, false_implies, not_true_eq_false, not_false_eq_true, zc9, zc1, zc2, zc3, zc1000, nI_m9, nI_add, pk_mul, ix_nI, vpT, zk_zpi, zn_zpi, zr_zpi, zk_zpa, zn_zpa, zr_zpa, zsz_zpi, zsz_zpa, zi_zpa, zpi_pa, zpa_zpa, true_and, and_true, and_self]
  refine v_within ?_
  have c1' : nI 1 ≤ nI (nw w) ∧ nI (nw w) ≤ nI 4 := ⟨(nI_leI (by omega) (by omega)).mpr hn.1, (nI_leI (by omega) (by omega)).mpr hn.2⟩
  rw [zb_t c1']
  try simp (disch := omega) only [↓wX5_readRest_0, ↓wX5_readRest_1, ↓wX5_readRest_4, ↓wX5_readRest_5, ↓wX5_readRest_6, ↓wX5_readRest_7, ↓wX5_readRest_8, ↓wX5_readRest_11, ↓wX5_readRest_14, ↓wX5_readRest_15, ↓wX5_readRest_16, ↓wX5_readRest_17, ↓wX5_readRest_18, ↓wX5_readRest_19, ↓wX5_readRest_20, ↓wX5_readRest_23, ↓wX5_readRest_24, ↓wX5_readRest_27, ↓wX5_readRest_28, ↓wX5_readRest_29, ↓wX5_readRest_32, ↓wX5_readRest_33, ↓wX5_readRest_34, ↓wX5_readRest_37, ↓wX5_readRest_38, ↓wX5_readRest_39, ↓wX5_readRest_42, ↓wX5_readRest_43, ↓wX5_readRest_44, ↓wX5_readRest_46, ↓wX5_readRest_49, ↓wX5_readRest_50, ↓wX5_readRest_51, ↓wX5_readRest_54, ↓wX5_readRest_57, ↓wX5_readRest_58, ↓wX5_readRest_61, ↓wX5_readRest_62, ↓wX5_readRest_63, ↓wX5_readRest_65, ↓wX5_readRest_68, zQi_def, zQa_def, zQv_def, nI00, nI10, nI11, nI01, true_or, or_true, false_or, or_false, eq_self, true_implies, false_implies, not_true_eq_false, not_false_eq_true, zc9, zc1, zc2, zc3, zc1000, nI_m9, nI_add, pk_mul, ix_nI, vpT, zk_zpi, zn_zpi, zr_zpi, zk_zpa, zn_zpa, zr_zpa, zsz_zpi, zsz_zpa, zi_zpa, zpi_pa, zpa_zpa, true_and, and_true, and_self]
  exact l_rest (e0 := e) hn.2 (nw w) 0 s h (by omega) ⟨⟨rfl, rfl, rfl, rfl⟩, fun _ _ _ => rfl, hT, h3, h4⟩ he (fun k hk => by omega) hq
theorem v_readRest8 {E : zE} {Q : Int32 → zH → Prop} {a : Nat} {h : zH} (hq : Q 0 h) : zMi E mX5_readRest [.inr a, .inl (wdC 8)] h Q := by
  (refine eX5_readRest 200 ?_; simp (disch := omega) only [↓wX5_readRest_0, ↓wX5_readRest_1, ↓wX5_readRest_4, ↓wX5_readRest_5, ↓wX5_readRest_6, ↓wX5_readRest_7, ↓wX5_readRest_8, ↓wX5_readRest_11, ↓wX5_readRest_14, ↓wX5_readRest_15, ↓wX5_readRest_16, ↓wX5_readRest_17, ↓wX5_readRest_18, ↓wX5_readRest_19, ↓wX5_readRest_20, ↓wX5_readRest_23, ↓wX5_readRest_24, ↓wX5_readRest_27, ↓wX5_readRest_28, ↓wX5_readRest_29, ↓wX5_readRest_32, ↓wX5_readRest_33, ↓wX5_readRest_34, ↓wX5_readRest_37, ↓wX5_readRest_38, ↓wX5_readRest_39, ↓wX5_readRest_42, ↓wX5_readRest_43, ↓wX5_readRest_44, ↓wX5_readRest_46, ↓wX5_readRest_49, ↓wX5_readRest_50, ↓wX5_readRest_51, ↓wX5_readRest_54, ↓wX5_readRest_57, ↓wX5_readRest_58, ↓wX5_readRest_61, ↓wX5_readRest_62, ↓wX5_readRest_63, ↓wX5_readRest_65, ↓wX5_readRest_68, zQi_def, zQa_def, zQv_def, nI00, nI10, nI11, nI01, true_or, or_true, false_or, or_false, eq_self, true_implies, false_implies, not_true_eq_false, not_false_eq_true, zc9, zc1, zc2, zc3, zc1000, nI_m9, nI_add, pk_mul, ix_nI, vpT, zk_zpi, zn_zpi, zr_zpi, zk_zpa, zn_zpa, zr_zpa, zsz_zpi, zsz_zpa, zi_zpa, zpi_pa, zpa_zpa, true_and, and_true, and_self])
  refine v_numbersBehind (by omega) ?_
  rw [if_neg (by omega)]
  try simp (disch := omega) only [↓wX5_readRest_0, ↓wX5_readRest_1, ↓wX5_readRest_4, ↓wX5_readRest_5, ↓wX5_readRest_6, ↓wX5_readRest_7, ↓wX5_readRest_8, ↓wX5_readRest_11, ↓wX5_readRest_14, ↓wX5_readRest_15, ↓wX5_readRest_16, ↓wX5_readRest_17, ↓wX5_readRest_18, ↓wX5_readRest_19, ↓wX5_readRest_20, ↓wX5_readRest_23, ↓wX5_readRest_24, ↓wX5_readRest_27, ↓wX5_readRest_28, ↓wX5_readRest_29, ↓wX5_readRest_32, ↓wX5_readRest_33, ↓wX5_readRest_34, ↓wX5_readRest_37, ↓wX5_readRest_38, ↓wX5_readRest_39, ↓wX5_readRest_42, ↓wX5_readRest_43, ↓wX5_readRest_44, ↓wX5_readRest_46, ↓wX5_readRest_49, ↓wX5_readRest_50, ↓wX5_readRest_51, ↓wX5_readRest_54, ↓wX5_readRest_57, ↓wX5_readRest_58, ↓wX5_readRest_61, ↓wX5_readRest_62, ↓wX5_readRest_63, ↓wX5_readRest_65, ↓wX5_readRest_68, zQi_def, zQa_def, zQv_def, nI00, nI10, nI11, nI01, true_or, or_true, false_or, or_false, eq_self, true_implies, false_implies, not_true_eq_false, not_false_eq_true, zc9, zc1, zc2, zc3, zc1000, nI_m9, nI_add, pk_mul, ix_nI, vpT, zk_zpi, zn_zpi, zr_zpi, zk_zpa, zn_zpa, zr_zpa, zsz_zpi, zsz_zpa, zi_zpa, zpi_pa, zpa_zpa, true_and, and_true, and_self]
  refine v_within ?_
  rw [zb_f (by rw [nI_leI (by omega) (by omega)]; omega)]
  try simp (disch := omega) only [↓wX5_readRest_0, ↓wX5_readRest_1, ↓wX5_readRest_4, ↓wX5_readRest_5, ↓wX5_readRest_6, ↓wX5_readRest_7, ↓wX5_readRest_8, ↓wX5_readRest_11, ↓wX5_readRest_14, ↓wX5_readRest_15, ↓wX5_readRest_16, ↓wX5_readRest_17, ↓wX5_readRest_18, ↓wX5_readRest_19, ↓wX5_readRest_20, ↓wX5_readRest_23, ↓wX5_readRest_24, ↓wX5_readRest_27, ↓wX5_readRest_28, ↓wX5_readRest_29, ↓wX5_readRest_32, ↓wX5_readRest_33, ↓wX5_readRest_34, ↓wX5_readRest_37, ↓wX5_readRest_38, ↓wX5_readRest_39, ↓wX5_readRest_42, ↓wX5_readRest_43, ↓wX5_readRest_44, ↓wX5_readRest_46, ↓wX5_readRest_49, ↓wX5_readRest_50, ↓wX5_readRest_51, ↓wX5_readRest_54, ↓wX5_readRest_57, ↓wX5_readRest_58, ↓wX5_readRest_61, ↓wX5_readRest_62, ↓wX5_readRest_63, ↓wX5_readRest_65, ↓wX5_readRest_68, zQi_def, zQa_def, zQv_def, nI00, nI10, nI11, nI01, true_or, or_true, false_or, or_false, eq_self, true_implies, false_implies, not_true_eq_false, not_false_eq_true, zc9, zc1, zc2, zc3, zc1000, nI_m9, nI_add, pk_mul, ix_nI, vpT, zk_zpi, zn_zpi, zr_zpi, zk_zpa, zn_zpa, zr_zpa, zsz_zpi, zsz_zpa, zi_zpa, zpi_pa, zpa_zpa, true_and, and_true, and_self]
  exact hq
