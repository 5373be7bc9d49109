/-! Texts: tokens; the class reads them. -/
def isL (c : Int32) : Bool := decide (nI 97 ≤ c ∧ c ≤ nI 122)
def isD (c : Int32) : Bool := decide (nI 48 ≤ c ∧ c ≤ nI 57)
def goOn (a b : Int32) : Bool := (isL a && isL b) || (isD a && isD b)
theorem isL_def {c : Int32} : (isL c = true) = (nI 97 ≤ c ∧ c ≤ nI 122) := by unfold isL; rw [decide_eq_true_eq]
theorem isD_def {c : Int32} : (isD c = true) = (nI 48 ≤ c ∧ c ≤ nI 57) := by unfold isD; rw [decide_eq_true_eq]
theorem goOn_iff {a b : Int32} : goOn a b = true ↔ (isL a = true ∧ isL b = true) ∨ (isD a = true ∧ isD b = true) := by unfold goOn; rw [Bool.or_eq_true, Bool.and_eq_true, Bool.and_eq_true]
theorem isLD {c : Int32} (h : isL c = true) : ¬ isD c = true := by
  rw [isL_def] at h
  rw [isD_def]
  rw [i32le, i32le, nIn (by omega), nIn (by omega)] at *
  omega
def sk (tx : Nat → Int32) : Nat → Nat → Nat
  | 0, i => i
  | d + 1, i => if tx i = nI 32 then sk tx d (i + 1) else i
def rn (p : Int32 → Bool) (tx : Nat → Int32) : Nat → Nat → Nat
  | 0, i => i
  | d + 1, i => if p (tx i) = true then rn p tx d (i + 1) else i
def tokS (tx : Nat → Int32) (L e : Nat) : Nat := sk tx (L - e) e
def tokE (tx : Nat → Int32) (L s : Nat) : Nat := if s < L then rn (goOn (tx s)) tx (L - (s + 1)) (s + 1) else s
theorem sk_le (tx : Nat → Int32) (d : Nat) : ∀ i, i ≤ sk tx d i ∧ sk tx d i ≤ i + d := by
  induction d with
  | zero => intro i; unfold sk; omega
  | succ d ih => intro i; unfold sk; split <;> have := ih (i + 1) <;> omega
theorem rn_le (p : Int32 → Bool) (tx : Nat → Int32) (d : Nat) : ∀ i, i ≤ rn p tx d i ∧ rn p tx d i ≤ i + d := by
  induction d with
  | zero => intro i; unfold rn; omega
  | succ d ih => intro i; unfold rn; split <;> have := ih (i + 1) <;> omega
theorem rn_all (p : Int32 → Bool) (tx : Nat → Int32) (d : Nat) : ∀ i k, i ≤ k → k < rn p tx d i → p (tx k) = true := by
  induction d with
  | zero => intro i k h1 h2; unfold rn at h2; omega
  | succ d ih =>
    intro i k h1 h2
    unfold rn at h2
    split at h2
    · by_cases e : k = i
      · subst e; assumption
      · exact ih (i + 1) k (by omega) h2
    · omega
theorem tokS_le {tx : Nat → Int32} {L e : Nat} (h : e ≤ L) : e ≤ tokS tx L e ∧ tokS tx L e ≤ L := by
  have := sk_le tx (L - e) e
  unfold tokS
  omega
theorem tokE_le {tx : Nat → Int32} {L s : Nat} (h : s ≤ L) : s ≤ tokE tx L s ∧ tokE tx L s ≤ L ∧ (s < L → s < tokE tx L s) := by
  unfold tokE
  split
  · have := rn_le (goOn (tx s)) tx (L - (s + 1)) (s + 1)
    omega
  · omega
/-- a text of the class -/
def TS (h : zH) (a : Nat) (tx : Nat → Int32) (L : Nat) : Prop := (zk h a = 6 ∧ zr h a 0 = a + 1 ∧ zr h a 1 = a + 2 ∧ zk h (a + 1) = 21 ∧ zn h (a + 1) = 140 ∧ zk h (a + 2) = 20 ∧ zn h (a + 2) = 4) ∧ zi h a 2 = nI L ∧ L ≤ 140 ∧ ∀ k, k < L → zi h (a + 1) k = tx k
def cur (h : zH) (a s e : Nat) : zH := zpa h a (zup (zup (zi h a) 3 (nI s)) 4 (nI e))
theorem cur_cur (h : zH) (a s e s' e' : Nat) : cur (cur h a s e) a s' e' = cur h a s' e' := by
  unfold cur
  rw [zi_zpa, zpa_zpa]
  congr 1
  funext k
  unfold zup
  grind
theorem zk_cur (h : zH) (a s e : Nat) : zk (cur h a s e) = zk h := rfl
theorem zn_cur (h : zH) (a s e : Nat) : zn (cur h a s e) = zn h := rfl
theorem zr_cur (h : zH) (a s e : Nat) : zr (cur h a s e) = zr h := rfl
theorem zi_cur3 (h : zH) (a s e : Nat) : zi (cur h a s e) a 3 = nI s := by unfold cur; rw [zi_zpa, zup_ne (by omega), zup_eq rfl]
theorem zi_cur4 (h : zH) (a s e : Nat) : zi (cur h a s e) a 4 = nI e := by unfold cur; rw [zi_zpa, zup_eq rfl]
theorem zi_curF (h : zH) {a s e k : Nat} (hk : k ≠ 3 ∧ k ≠ 4) : zi (cur h a s e) a k = zi h a k := by unfold cur; rw [zi_zpa, zup_ne hk.2, zup_ne hk.1]
theorem zi_curN (h : zH) {a s e b : Nat} (hb : b ≠ a) : zi (cur h a s e) b = zi h b := zi_zpaN h _ hb
theorem TS_cur {h : zH} {a s e L : Nat} {tx : Nat → Int32} (hT : TS h a tx L) : TS (cur h a s e) a tx L :=
  ⟨hT.1, by rw [zi_curF h (by omega)]; exact hT.2.1, hT.2.2.1, fun k hk => by rw [zi_curN h (by omega)]; exact hT.2.2.2 k hk⟩
theorem cur_up (h : zH) (a s e s' e' : Nat) : zpa (cur h a s e) a (zup (zi (cur h a s e) a) 3 (nI s')) = cur h a s' e ∧ zpa (cur h a s e) a (zup (zi (cur h a s e) a) 4 (nI e')) = cur h a s e' := by
  unfold cur
  rw [zi_zpa, zpa_zpa, zpa_zpa]
  constructor <;> (congr 1; funext k; unfold zup; grind)
theorem cur_self {h : zH} {a s e : Nat} (h3 : zi h a 3 = nI s) (h4 : zi h a 4 = nI e) : cur h a s e = h := by
  unfold cur
  rw [← h3, ← h4, zup_self, zup_self, zpa_self]
theorem v_isLetter {E : zE} {Q : Int32 → zH → Prop} {c : Int32} {h : zH} (hq : Q (zb (isL c = true)) h) : zMi E mX5_isLetter [.inl c] h Q := by
  (refine eX5_isLetter 200 ?_; simp (disch := omega) only [↓wX5_isLetter_0, ↓wX5_isLetter_1, ↓wX5_isLetter_3, ↓wX5_isLetter_6, ↓wX5_isLetter_7, ↓wX5_isLetter_9, ↓wX5_isLetter_12, ↓wX5_isLetter_13, ↓wX5_isLetter_16, ↓wX5_isLetter_17, zQi_def, zQa_def, zQv_def, nI00, nI10, nI11, nI01, true_or, or_true, false_or, or_false, eq_self, true_implies, false_implies, not_true_eq_false, not_false_eq_true, zc9, zc1, zc2, zc3, zc1000, nI_m9, nI_add, pk_mul, ix_nI, vpT, zk_zpi, zn_zpi, zr_zpi, zk_zpa, zn_zpa, zr_zpa, zsz_zpi, zsz_zpa, zi_zpa, zpi_pa, zpa_zpa, true_and, and_true, and_self])
  rw [show zb (isL c = true) = zb (nI 97 ≤ c ∧ c ≤ nI 122) from zb_iff (iff_of_eq isL_def)] at hq
  unfold zb at hq
  simp only [ltle]
  grind
theorem v_isDigit {E : zE} {Q : Int32 → zH → Prop} {c : Int32} {h : zH} (hq : Q (zb (isD c = true)) h) : zMi E mX5_isDigit [.inl c] h Q := by
  (refine eX5_isDigit 200 ?_; simp (disch := omega) only [↓wX5_isDigit_0, ↓wX5_isDigit_1, ↓wX5_isDigit_3, ↓wX5_isDigit_6, ↓wX5_isDigit_7, ↓wX5_isDigit_9, ↓wX5_isDigit_12, ↓wX5_isDigit_13, ↓wX5_isDigit_16, ↓wX5_isDigit_17, zQi_def, zQa_def, zQv_def, nI00, nI10, nI11, nI01, true_or, or_true, false_or, or_false, eq_self, true_implies, false_implies, not_true_eq_false, not_false_eq_true, zc9, zc1, zc2, zc3, zc1000, nI_m9, nI_add, pk_mul, ix_nI, vpT, zk_zpi, zn_zpi, zr_zpi, zk_zpa, zn_zpa, zr_zpa, zsz_zpi, zsz_zpa, zi_zpa, zpi_pa, zpa_zpa, true_and, and_true, and_self])
  rw [show zb (isD c = true) = zb (nI 48 ≤ c ∧ c ≤ nI 57) from zb_iff (iff_of_eq isD_def)] at hq
  unfold zb at hq
  simp only [ltle]
  grind
theorem v_goesOn {E : zE} {Q : Int32 → zH → Prop} {a b : Int32} {h : zH} (hq : Q (zb (goOn a b = true)) h) : zMi E mX5_goesOn [.inl a, .inl b] h Q := by
  (refine eX5_goesOn 200 ?_; simp (disch := omega) only [↓wX5_goesOn_0, ↓wX5_goesOn_1, ↓wX5_goesOn_4, ↓wX5_goesOn_7, ↓wX5_goesOn_8, ↓wX5_goesOn_11, ↓wX5_goesOn_14, ↓wX5_goesOn_15, ↓wX5_goesOn_18, ↓wX5_goesOn_21, ↓wX5_goesOn_22, ↓wX5_goesOn_25, ↓wX5_goesOn_28, ↓wX5_goesOn_29, ↓wX5_goesOn_32, ↓wX5_goesOn_33, zQi_def, zQa_def, zQv_def, nI00, nI10, nI11, nI01, true_or, or_true, false_or, or_false, eq_self, true_implies, false_implies, not_true_eq_false, not_false_eq_true, zc9, zc1, zc2, zc3, zc1000, nI_m9, nI_add, pk_mul, ix_nI, vpT, zk_zpi, zn_zpi, zr_zpi, zk_zpa, zn_zpa, zr_zpa, zsz_zpi, zsz_zpa, zi_zpa, zpi_pa, zpa_zpa, true_and, and_true, and_self])
  refine v_isLetter ?_
  have dig : ¬ (isL a = true ∧ isL b = true) → zMi E mX5_isDigit [.inl a] h (fun r h => (r = 0 → Q (nI 0) h) ∧ (¬ r = 0 → zMi E mX5_isDigit [.inl b] h (fun r h => (r = 0 → Q (nI 0) h) ∧ (¬ r = 0 → Q (nI 1) h)))) := by
    intro hn
    refine v_isDigit ?_
    by_cases da : isD a = true
    · rw [zb_t da]
      refine ⟨fun q => absurd q (by decide), fun _ => v_isDigit ?_⟩
      by_cases db : isD b = true
      · rw [zb_t (goOn_iff.mpr (Or.inr ⟨da, db⟩))] at hq
        rw [zb_t db]
        exact ⟨fun q => absurd q (by decide), fun _ => hq⟩
      · rw [zb_f (fun q => (goOn_iff.mp q).elim hn (fun q => db q.2))] at hq
        rw [zb_f db]
        exact ⟨fun _ => hq, fun q => absurd rfl q⟩
    · rw [zb_f (fun q => (goOn_iff.mp q).elim hn (fun q => da q.1))] at hq
      rw [zb_f da]
      exact ⟨fun _ => hq, fun q => absurd rfl q⟩
  by_cases la : isL a = true
  · rw [zb_t la]
    refine ⟨fun q => absurd q (by decide), fun _ => v_isLetter ?_⟩
    by_cases lb : isL b = true
    · rw [zb_t (goOn_iff.mpr (Or.inl ⟨la, lb⟩))] at hq
      rw [zb_t lb]
      exact ⟨fun _ => hq, fun q => absurd q (by decide)⟩
    · rw [zb_f lb]
      exact ⟨fun q => absurd rfl q, fun _ => dig (fun q => lb q.2)⟩
  · rw [zb_f la]
    exact ⟨fun _ => dig (fun q => la q.1), fun q => absurd rfl q⟩
theorem cur_up3 (h : zH) (a s e s' : Nat) : zpa (cur h a s e) a (zup (zi (cur h a s e) a) 3 (nI s')) = cur h a s' e := (cur_up h a s e s' 0).1
theorem cur_up4 (h : zH) (a s e e' : Nat) : zpa (cur h a s e) a (zup (zi (cur h a s e) a) 4 (nI e')) = cur h a s e' := (cur_up h a s e 0 e').2
theorem l_rt2 {E : zE} {Q : Int32 → zH → Prop} {a L s : Nat} {c : Int32} {h : zH} {tx : Nat → Int32} {k' n' : Nat} (hT : TS h a tx L) (d : Nat) : ∀ i, i + d = L → Q (nI 1) (cur h a s (rn (goOn c) tx d i)) →
    zJ E mX5_readToken (zQi Q) 87 [some (.inr a), some (.inl c)] [] (cur h a s i) k' n' := by
  obtain ⟨⟨t1, t2, t3, t4, t5, t6, t7⟩, t8, t9, t10⟩ := id hT
  have c2 : ∀ s e, zi (cur h a s e) a 2 = nI L := fun s e => by rw [zi_curF h (by omega)]; exact t8
  have c1 : ∀ s e, zi (cur h a s e) (a + 1) = zi h (a + 1) := fun s e => zi_curN h (by omega)
  induction d with
  | zero =>
    intro i hi hq
    obtain rfl : i = L := by omega
    (refine jX5_readToken 200 ?_; simp (disch := omega) only [↓wX5_readToken_0, ↓wX5_readToken_1, ↓wX5_readToken_2, ↓wX5_readToken_5, ↓wX5_readToken_8, ↓wX5_readToken_9, ↓wX5_readToken_12, ↓wX5_readToken_13, ↓wX5_readToken_16, ↓wX5_readToken_19, ↓wX5_readToken_20, ↓wX5_readToken_23, ↓wX5_readToken_24, ↓wX5_readToken_27, ↓wX5_readToken_28, ↓wX5_readToken_30, ↓wX5_readToken_33, ↓wX5_readToken_34, ↓wX5_readToken_35, ↓wX5_readToken_38, ↓wX5_readToken_39, ↓wX5_readToken_40, ↓wX5_readToken_43, ↓wX5_readToken_46, ↓wX5_readToken_47, ↓wX5_readToken_48, ↓wX5_readToken_51, ↓wX5_readToken_54, ↓wX5_readToken_55, ↓wX5_readToken_58, ↓wX5_readToken_59, ↓wX5_readToken_62, ↓wX5_readToken_65, ↓wX5_readToken_66, ↓wX5_readToken_67, ↓wX5_readToken_68, ↓wX5_readToken_71, ↓wX5_readToken_72, ↓wX5_readToken_75, ↓wX5_readToken_76, ↓wX5_readToken_77, ↓wX5_readToken_78, ↓wX5_readToken_79, ↓wX5_readToken_82, ↓wX5_readToken_83, ↓wX5_readToken_84, ↓wX5_readToken_87, ↓wX5_readToken_88, ↓wX5_readToken_91, ↓wX5_readToken_92, ↓wX5_readToken_95, ↓wX5_readToken_98, ↓wX5_readToken_99, ↓wX5_readToken_100, ↓wX5_readToken_103, ↓wX5_readToken_104, ↓wX5_readToken_107, ↓wX5_readToken_108, ↓wX5_readToken_111, ↓wX5_readToken_114, ↓wX5_readToken_115, ↓wX5_readToken_116, ↓wX5_readToken_119, ↓wX5_readToken_120, ↓wX5_readToken_121, ↓wX5_readToken_124, ↓wX5_readToken_127, ↓wX5_readToken_128, zQi_def, zQa_def, zQv_def, nI00, nI10, nI11, nI01, true_or, or_true, false_or, or_false, eq_self, true_implies, false_implies, not_true_eq_false, not_false_eq_true, zc9, zc1, zc2, zc3, zc1000, nI_m9, nI_add, pk_mul, ix_nI, vpT, zk_zpi, zn_zpi, zr_zpi, zk_zpa, zn_zpa, zr_zpa, zsz_zpi, zsz_zpa, zi_zpa, zpi_pa, zpa_zpa, true_and, and_true, and_self, zk_cur, zn_cur, zr_cur, t1, t2, zi_cur4, c2, nI_leI, Nat.le_refl])
    exact hq
  | succ d ih =>
    intro i hi hq
    have hle : ¬ L ≤ i := by omega
    have ti := t10 i (by omega)
    unfold rn at hq
    (refine jX5_readToken 200 ?_; simp (disch := omega) only [↓wX5_readToken_0, ↓wX5_readToken_1, ↓wX5_readToken_2, ↓wX5_readToken_5, ↓wX5_readToken_8, ↓wX5_readToken_9, ↓wX5_readToken_12, ↓wX5_readToken_13, ↓wX5_readToken_16, ↓wX5_readToken_19, ↓wX5_readToken_20, ↓wX5_readToken_23, ↓wX5_readToken_24, ↓wX5_readToken_27, ↓wX5_readToken_28, ↓wX5_readToken_30, ↓wX5_readToken_33, ↓wX5_readToken_34, ↓wX5_readToken_35, ↓wX5_readToken_38, ↓wX5_readToken_39, ↓wX5_readToken_40, ↓wX5_readToken_43, ↓wX5_readToken_46, ↓wX5_readToken_47, ↓wX5_readToken_48, ↓wX5_readToken_51, ↓wX5_readToken_54, ↓wX5_readToken_55, ↓wX5_readToken_58, ↓wX5_readToken_59, ↓wX5_readToken_62, ↓wX5_readToken_65, ↓wX5_readToken_66, ↓wX5_readToken_67, ↓wX5_readToken_68, ↓wX5_readToken_71, ↓wX5_readToken_72, ↓wX5_readToken_75, ↓wX5_readToken_76, ↓wX5_readToken_77, ↓wX5_readToken_78, ↓wX5_readToken_79, ↓wX5_readToken_82, ↓wX5_readToken_83, ↓wX5_readToken_84, ↓wX5_readToken_87, ↓wX5_readToken_88, ↓wX5_readToken_91, ↓wX5_readToken_92, ↓wX5_readToken_95, ↓wX5_readToken_98, ↓wX5_readToken_99, ↓wX5_readToken_100, ↓wX5_readToken_103, ↓wX5_readToken_104, ↓wX5_readToken_107, ↓wX5_readToken_108, ↓wX5_readToken_111, ↓wX5_readToken_114, ↓wX5_readToken_115, ↓wX5_readToken_116, ↓wX5_readToken_119, ↓wX5_readToken_120, ↓wX5_readToken_121, ↓wX5_readToken_124, ↓wX5_readToken_127, ↓wX5_readToken_128, zQi_def, zQa_def, zQv_def, nI00, nI10, nI11, nI01, true_or, or_true, false_or, or_false, eq_self, true_implies, false_implies, not_true_eq_false, not_false_eq_true, zc9, zc1, zc2, zc3, zc1000, nI_m9, nI_add, pk_mul, ix_nI, vpT, zk_zpi, zn_zpi, zr_zpi, zk_zpa, zn_zpa, zr_zpa, zsz_zpi, zsz_zpa, zi_zpa, zpi_pa, zpa_zpa, true_and, and_true, and_self, zk_cur, zn_cur, zr_cur, t1, t2, t4, t5, zi_cur4, c1, c2, nI_leI, hle, ti])
    refine v_goesOn ?_
    by_cases g : goOn c (tx i) = true
    · rw [if_pos g] at hq
      rw [zb_t g]
      simp (disch := omega) only [↓wX5_readToken_0, ↓wX5_readToken_1, ↓wX5_readToken_2, ↓wX5_readToken_5, ↓wX5_readToken_8, ↓wX5_readToken_9, ↓wX5_readToken_12, ↓wX5_readToken_13, ↓wX5_readToken_16, ↓wX5_readToken_19, ↓wX5_readToken_20, ↓wX5_readToken_23, ↓wX5_readToken_24, ↓wX5_readToken_27, ↓wX5_readToken_28, ↓wX5_readToken_30, ↓wX5_readToken_33, ↓wX5_readToken_34, ↓wX5_readToken_35, ↓wX5_readToken_38, ↓wX5_readToken_39, ↓wX5_readToken_40, ↓wX5_readToken_43, ↓wX5_readToken_46, ↓wX5_readToken_47, ↓wX5_readToken_48, ↓wX5_readToken_51, ↓wX5_readToken_54, ↓wX5_readToken_55, ↓wX5_readToken_58, ↓wX5_readToken_59, ↓wX5_readToken_62, ↓wX5_readToken_65, ↓wX5_readToken_66, ↓wX5_readToken_67, ↓wX5_readToken_68, ↓wX5_readToken_71, ↓wX5_readToken_72, ↓wX5_readToken_75, ↓wX5_readToken_76, ↓wX5_readToken_77, ↓wX5_readToken_78, ↓wX5_readToken_79, ↓wX5_readToken_82, ↓wX5_readToken_83, ↓wX5_readToken_84, ↓wX5_readToken_87, ↓wX5_readToken_88, ↓wX5_readToken_91, ↓wX5_readToken_92, ↓wX5_readToken_95, ↓wX5_readToken_98, ↓wX5_readToken_99, ↓wX5_readToken_100, ↓wX5_readToken_103, ↓wX5_readToken_104, ↓wX5_readToken_107, ↓wX5_readToken_108, ↓wX5_readToken_111, ↓wX5_readToken_114, ↓wX5_readToken_115, ↓wX5_readToken_116, ↓wX5_readToken_119, ↓wX5_readToken_120, ↓wX5_readToken_121, ↓wX5_readToken_124, ↓wX5_readToken_127, ↓wX5_readToken_128, zQi_def, zQa_def, zQv_def, nI00, nI10, nI11, nI01, true_or, or_true, false_or, or_false, eq_self, true_implies, false_implies, not_true_eq_false, not_false_eq_true, zc9, zc1, zc2, zc3, zc1000, nI_m9, nI_add, pk_mul, ix_nI, vpT, zk_zpi, zn_zpi, zr_zpi, zk_zpa, zn_zpa, zr_zpa, zsz_zpi, zsz_zpa, zi_zpa, zpi_pa, zpa_zpa, true_and, and_true, and_self, zk_cur, zn_cur, zr_cur, t1, zi_cur4, cur_up4]
      exact ih (i + 1) (by omega) hq
    · rw [if_neg g] at hq
      rw [zb_f g]
      simp (disch := omega) only [↓wX5_readToken_0, ↓wX5_readToken_1, ↓wX5_readToken_2, ↓wX5_readToken_5, ↓wX5_readToken_8, ↓wX5_readToken_9, ↓wX5_readToken_12, ↓wX5_readToken_13, ↓wX5_readToken_16, ↓wX5_readToken_19, ↓wX5_readToken_20, ↓wX5_readToken_23, ↓wX5_readToken_24, ↓wX5_readToken_27, ↓wX5_readToken_28, ↓wX5_readToken_30, ↓wX5_readToken_33, ↓wX5_readToken_34, ↓wX5_readToken_35, ↓wX5_readToken_38, ↓wX5_readToken_39, ↓wX5_readToken_40, ↓wX5_readToken_43, ↓wX5_readToken_46, ↓wX5_readToken_47, ↓wX5_readToken_48, ↓wX5_readToken_51, ↓wX5_readToken_54, ↓wX5_readToken_55, ↓wX5_readToken_58, ↓wX5_readToken_59, ↓wX5_readToken_62, ↓wX5_readToken_65, ↓wX5_readToken_66, ↓wX5_readToken_67, ↓wX5_readToken_68, ↓wX5_readToken_71, ↓wX5_readToken_72, ↓wX5_readToken_75, ↓wX5_readToken_76, ↓wX5_readToken_77, ↓wX5_readToken_78, ↓wX5_readToken_79, ↓wX5_readToken_82, ↓wX5_readToken_83, ↓wX5_readToken_84, ↓wX5_readToken_87, ↓wX5_readToken_88, ↓wX5_readToken_91, ↓wX5_readToken_92, ↓wX5_readToken_95, ↓wX5_readToken_98, ↓wX5_readToken_99, ↓wX5_readToken_100, ↓wX5_readToken_103, ↓wX5_readToken_104, ↓wX5_readToken_107, ↓wX5_readToken_108, ↓wX5_readToken_111, ↓wX5_readToken_114, ↓wX5_readToken_115, ↓wX5_readToken_116, ↓wX5_readToken_119, ↓wX5_readToken_120, ↓wX5_readToken_121, ↓wX5_readToken_124, ↓wX5_readToken_127, ↓wX5_readToken_128, zQi_def, zQa_def, zQv_def, nI00, nI10, nI11, nI01, true_or, or_true, false_or, or_false, eq_self, true_implies, false_implies, not_true_eq_false, not_false_eq_true, zc9, zc1, zc2, zc3, zc1000, nI_m9, nI_add, pk_mul, ix_nI, vpT, zk_zpi, zn_zpi, zr_zpi, zk_zpa, zn_zpa, zr_zpa, zsz_zpi, zsz_zpa, zi_zpa, zpi_pa, zpa_zpa, true_and, and_true, and_self]
      exact hq
theorem l_rt1 {E : zE} {Q : Int32 → zH → Prop} {a L e0 : Nat} {h : zH} {tx : Nat → Int32} {k' n' : Nat} {l1 : Option zV} (hT : TS h a tx L) (d : Nat) : ∀ i, i + d = L →
    (sk tx d i = L → Q (nI 0) (cur h a L L)) → (sk tx d i < L → zJ E mX5_readToken (zQi Q) 87 [some (.inr a), some (.inl (tx (sk tx d i)))] [] (cur h a (sk tx d i) (sk tx d i + 1)) k' n') →
    zJ E mX5_readToken (zQi Q) 8 [some (.inr a), l1] [] (cur h a i e0) k' n' := by
  obtain ⟨⟨t1, t2, t3, t4, t5, t6, t7⟩, t8, t9, t10⟩ := id hT
  have c2 : ∀ s e, zi (cur h a s e) a 2 = nI L := fun s e => by rw [zi_curF h (by omega)]; exact t8
  have c1 : ∀ s e, zi (cur h a s e) (a + 1) = zi h (a + 1) := fun s e => zi_curN h (by omega)
  induction d with
  | zero =>
    intro i hi hA hB
    obtain rfl : i = L := by omega
    (refine jX5_readToken 200 ?_; simp (disch := omega) only [↓wX5_readToken_0, ↓wX5_readToken_1, ↓wX5_readToken_2, ↓wX5_readToken_5, ↓wX5_readToken_8, ↓wX5_readToken_9, ↓wX5_readToken_12, ↓wX5_readToken_13, ↓wX5_readToken_16, ↓wX5_readToken_19, ↓wX5_readToken_20, ↓wX5_readToken_23, ↓wX5_readToken_24, ↓wX5_readToken_27, ↓wX5_readToken_28, ↓wX5_readToken_30, ↓wX5_readToken_33, ↓wX5_readToken_34, ↓wX5_readToken_35, ↓wX5_readToken_38, ↓wX5_readToken_39, ↓wX5_readToken_40, ↓wX5_readToken_43, ↓wX5_readToken_46, ↓wX5_readToken_47, ↓wX5_readToken_48, ↓wX5_readToken_51, ↓wX5_readToken_54, ↓wX5_readToken_55, ↓wX5_readToken_58, ↓wX5_readToken_59, ↓wX5_readToken_62, ↓wX5_readToken_65, ↓wX5_readToken_66, ↓wX5_readToken_67, ↓wX5_readToken_68, ↓wX5_readToken_71, ↓wX5_readToken_72, ↓wX5_readToken_75, ↓wX5_readToken_76, ↓wX5_readToken_77, ↓wX5_readToken_78, ↓wX5_readToken_79, ↓wX5_readToken_82, ↓wX5_readToken_83, ↓wX5_readToken_84, ↓wX5_readToken_87, ↓wX5_readToken_88, ↓wX5_readToken_91, ↓wX5_readToken_92, ↓wX5_readToken_95, ↓wX5_readToken_98, ↓wX5_readToken_99, ↓wX5_readToken_100, ↓wX5_readToken_103, ↓wX5_readToken_104, ↓wX5_readToken_107, ↓wX5_readToken_108, ↓wX5_readToken_111, ↓wX5_readToken_114, ↓wX5_readToken_115, ↓wX5_readToken_116, ↓wX5_readToken_119, ↓wX5_readToken_120, ↓wX5_readToken_121, ↓wX5_readToken_124, ↓wX5_readToken_127, ↓wX5_readToken_128, zQi_def, zQa_def, zQv_def, nI00, nI10, nI11, nI01, true_or, or_true, false_or, or_false, eq_self, true_implies, false_implies, not_true_eq_false, not_false_eq_true, zc9, zc1, zc2, zc3, zc1000, nI_m9, nI_add, pk_mul, ix_nI, vpT, zk_zpi, zn_zpi, zr_zpi, zk_zpa, zn_zpa, zr_zpa, zsz_zpi, zsz_zpa, zi_zpa, zpi_pa, zpa_zpa, true_and, and_true, and_self, zk_cur, zn_cur, zr_cur, t1, t2, zi_cur3, zi_cur4, c2, nI_leI, Nat.le_refl, cur_up4, ltle])
    exact hA rfl
  | succ d ih =>
    intro i hi hA hB
    have hle : ¬ L ≤ i := by omega
    have ti := t10 i (by omega)
    unfold sk at hA hB
    by_cases g : tx i = nI 32
    · simp only [if_pos g] at hA hB
      (refine jX5_readToken 200 ?_; simp (disch := omega) only [↓wX5_readToken_0, ↓wX5_readToken_1, ↓wX5_readToken_2, ↓wX5_readToken_5, ↓wX5_readToken_8, ↓wX5_readToken_9, ↓wX5_readToken_12, ↓wX5_readToken_13, ↓wX5_readToken_16, ↓wX5_readToken_19, ↓wX5_readToken_20, ↓wX5_readToken_23, ↓wX5_readToken_24, ↓wX5_readToken_27, ↓wX5_readToken_28, ↓wX5_readToken_30, ↓wX5_readToken_33, ↓wX5_readToken_34, ↓wX5_readToken_35, ↓wX5_readToken_38, ↓wX5_readToken_39, ↓wX5_readToken_40, ↓wX5_readToken_43, ↓wX5_readToken_46, ↓wX5_readToken_47, ↓wX5_readToken_48, ↓wX5_readToken_51, ↓wX5_readToken_54, ↓wX5_readToken_55, ↓wX5_readToken_58, ↓wX5_readToken_59, ↓wX5_readToken_62, ↓wX5_readToken_65, ↓wX5_readToken_66, ↓wX5_readToken_67, ↓wX5_readToken_68, ↓wX5_readToken_71, ↓wX5_readToken_72, ↓wX5_readToken_75, ↓wX5_readToken_76, ↓wX5_readToken_77, ↓wX5_readToken_78, ↓wX5_readToken_79, ↓wX5_readToken_82, ↓wX5_readToken_83, ↓wX5_readToken_84, ↓wX5_readToken_87, ↓wX5_readToken_88, ↓wX5_readToken_91, ↓wX5_readToken_92, ↓wX5_readToken_95, ↓wX5_readToken_98, ↓wX5_readToken_99, ↓wX5_readToken_100, ↓wX5_readToken_103, ↓wX5_readToken_104, ↓wX5_readToken_107, ↓wX5_readToken_108, ↓wX5_readToken_111, ↓wX5_readToken_114, ↓wX5_readToken_115, ↓wX5_readToken_116, ↓wX5_readToken_119, ↓wX5_readToken_120, ↓wX5_readToken_121, ↓wX5_readToken_124, ↓wX5_readToken_127, ↓wX5_readToken_128, zQi_def, zQa_def, zQv_def, nI00, nI10, nI11, nI01, true_or, or_true, false_or, or_false, eq_self, true_implies, false_implies, not_true_eq_false, not_false_eq_true, zc9, zc1, zc2, zc3, zc1000, nI_m9, nI_add, pk_mul, ix_nI, vpT, zk_zpi, zn_zpi, zr_zpi, zk_zpa, zn_zpa, zr_zpa, zsz_zpi, zsz_zpa, zi_zpa, zpi_pa, zpa_zpa, true_and, and_true, and_self, zk_cur, zn_cur, zr_cur, t1, t2, t4, t5, zi_cur3, zi_cur4, c1, c2, nI_leI, hle, ti, g, cur_up3])
      exact ih (i + 1) (by omega) hA hB
    · simp only [if_neg g] at hA hB
      (refine jX5_readToken 200 ?_; simp (disch := omega) only [↓wX5_readToken_0, ↓wX5_readToken_1, ↓wX5_readToken_2, ↓wX5_readToken_5, ↓wX5_readToken_8, ↓wX5_readToken_9, ↓wX5_readToken_12, ↓wX5_readToken_13, ↓wX5_readToken_16, ↓wX5_readToken_19, ↓wX5_readToken_20, ↓wX5_readToken_23, ↓wX5_readToken_24, ↓wX5_readToken_27, ↓wX5_readToken_28, ↓wX5_readToken_30, ↓wX5_readToken_33, ↓wX5_readToken_34, ↓wX5_readToken_35, ↓wX5_readToken_38, ↓wX5_readToken_39, ↓wX5_readToken_40, ↓wX5_readToken_43, ↓wX5_readToken_46, ↓wX5_readToken_47, ↓wX5_readToken_48, ↓wX5_readToken_51, ↓wX5_readToken_54, ↓wX5_readToken_55, ↓wX5_readToken_58, ↓wX5_readToken_59, ↓wX5_readToken_62, ↓wX5_readToken_65, ↓wX5_readToken_66, ↓wX5_readToken_67, ↓wX5_readToken_68, ↓wX5_readToken_71, ↓wX5_readToken_72, ↓wX5_readToken_75, ↓wX5_readToken_76, ↓wX5_readToken_77, ↓wX5_readToken_78, ↓wX5_readToken_79, ↓wX5_readToken_82, ↓wX5_readToken_83, ↓wX5_readToken_84, ↓wX5_readToken_87, ↓wX5_readToken_88, ↓wX5_readToken_91, ↓wX5_readToken_92, ↓wX5_readToken_95, ↓wX5_readToken_98, ↓wX5_readToken_99, ↓wX5_readToken_100, ↓wX5_readToken_103, ↓wX5_readToken_104, ↓wX5_readToken_107, ↓wX5_readToken_108, ↓wX5_readToken_111, ↓wX5_readToken_114, ↓wX5_readToken_115, ↓wX5_readToken_116, ↓wX5_readToken_119, ↓wX5_readToken_120, ↓wX5_readToken_121, ↓wX5_readToken_124, ↓wX5_readToken_127, ↓wX5_readToken_128, zQi_def, zQa_def, zQv_def, nI00, nI10, nI11, nI01, true_or, or_true, false_or, or_false, eq_self, true_implies, false_implies, not_true_eq_false, not_false_eq_true, zc9, zc1, zc2, zc3, zc1000, nI_m9, nI_add, pk_mul, ix_nI, vpT, zk_zpi, zn_zpi, zr_zpi, zk_zpa, zn_zpa, zr_zpa, zsz_zpi, zsz_zpa, zi_zpa, zpi_pa, zpa_zpa, true_and, and_true, and_self, zk_cur, zn_cur, zr_cur, t1, t2, t4, t5, zi_cur3, zi_cur4, c1, c2, nI_leI, hle, ti, g, cur_up3, cur_up4, ltle])
      exact hB (by omega)
theorem v_readToken {E : zE} {Q : Int32 → zH → Prop} {a L e : Nat} {h : zH} {tx : Nat → Int32} (hT : TS h a tx L) (he : zi h a 4 = nI e) (heL : e ≤ L) (hq : Q (zb (tokS tx L e < L)) (cur h a (tokS tx L e) (tokE tx L (tokS tx L e)))) : zMi E mX5_readToken [.inr a] h Q := by
  obtain ⟨⟨t1, t2, t3, t4, t5, t6, t7⟩, t8, t9, t10⟩ := id hT
  have e0 : zpa h a (zup (zi h a) 3 (nI e)) = cur h a e e := by
    unfold cur
    congr 1
    funext k
    by_cases hk : k = 4
    · subst hk; rw [zup_ne (by omega), zup_eq rfl]; exact he
    · rw [zup_ne (show k ≠ 4 from hk)]
  (refine eX5_readToken 200 ?_; simp (disch := omega) only [↓wX5_readToken_0, ↓wX5_readToken_1, ↓wX5_readToken_2, ↓wX5_readToken_5, ↓wX5_readToken_8, ↓wX5_readToken_9, ↓wX5_readToken_12, ↓wX5_readToken_13, ↓wX5_readToken_16, ↓wX5_readToken_19, ↓wX5_readToken_20, ↓wX5_readToken_23, ↓wX5_readToken_24, ↓wX5_readToken_27, ↓wX5_readToken_28, ↓wX5_readToken_30, ↓wX5_readToken_33, ↓wX5_readToken_34, ↓wX5_readToken_35, ↓wX5_readToken_38, ↓wX5_readToken_39, ↓wX5_readToken_40, ↓wX5_readToken_43, ↓wX5_readToken_46, ↓wX5_readToken_47, ↓wX5_readToken_48, ↓wX5_readToken_51, ↓wX5_readToken_54, ↓wX5_readToken_55, ↓wX5_readToken_58, ↓wX5_readToken_59, ↓wX5_readToken_62, ↓wX5_readToken_65, ↓wX5_readToken_66, ↓wX5_readToken_67, ↓wX5_readToken_68, ↓wX5_readToken_71, ↓wX5_readToken_72, ↓wX5_readToken_75, ↓wX5_readToken_76, ↓wX5_readToken_77, ↓wX5_readToken_78, ↓wX5_readToken_79, ↓wX5_readToken_82, ↓wX5_readToken_83, ↓wX5_readToken_84, ↓wX5_readToken_87, ↓wX5_readToken_88, ↓wX5_readToken_91, ↓wX5_readToken_92, ↓wX5_readToken_95, ↓wX5_readToken_98, ↓wX5_readToken_99, ↓wX5_readToken_100, ↓wX5_readToken_103, ↓wX5_readToken_104, ↓wX5_readToken_107, ↓wX5_readToken_108, ↓wX5_readToken_111, ↓wX5_readToken_114, ↓wX5_readToken_115, ↓wX5_readToken_116, ↓wX5_readToken_119, ↓wX5_readToken_120, ↓wX5_readToken_121, ↓wX5_readToken_124, ↓wX5_readToken_127, ↓wX5_readToken_128, zQi_def, zQa_def, zQv_def, nI00, nI10, nI11, nI01, true_or, or_true, false_or, or_false, eq_self, true_implies, false_implies, not_true_eq_false, not_false_eq_true, zc9, zc1, zc2, zc3, zc1000, nI_m9, nI_add, pk_mul, ix_nI, vpT, zk_zpi, zn_zpi, zr_zpi, zk_zpa, zn_zpa, zr_zpa, zsz_zpi, zsz_zpa, zi_zpa, zpi_pa, zpa_zpa, true_and, and_true, and_self, t1, he, e0])
  have hS := tokS_le (tx := tx) heL
  refine l_rt1 (Q := Q) hT (L - e) e (by omega) (fun hs => ?_) (fun hs => ?_)
  · have hs' : tokS tx L e = L := hs
    rw [hs', zb_f (by omega)] at hq
    have : tokE tx L L = L := by unfold tokE; rw [if_neg (by omega)]
    rw [this] at hq
    exact hq
  · have hs' : tokS tx L e < L := hs
    rw [zb_t hs'] at hq
    refine l_rt2 hT (L - (tokS tx L e + 1)) (tokS tx L e + 1) (by omega) ?_
    have : tokE tx L (tokS tx L e) = rn (goOn (tx (tokS tx L e))) tx (L - (tokS tx L e + 1)) (tokS tx L e + 1) := by
      rw [tokE, if_pos hs']
    rw [this] at hq
    exact hq
/-! words -/
def isW (tx : Nat → Int32) (s e t : Nat) : Prop := e - s = zSl t ∧ ∀ k, k < zSl t → tx (s + k) = zSb t k
theorem ch_zSb : ∀ t, t < 9 → ∀ i, i < zSl t → ((zSb t i &&& nI 255).toUInt32 % 65536).toInt32 = zSb t i ∧ narrow .char (.int (zSb t i)) = .int (zSb t i) := by decide +kernel
theorem zSl_le : ∀ t, t < 9 → zSl t ≤ 6 := by decide
theorem n0b : narrow .byte (.int (nI 0)) = .int (nI 0) := by decide
theorem v_strLen {E : zE} {Q : Int32 → zH → Prop} {t : Nat} {h : zH} (ht : t < 9) (hq : Q (nI (zSl t)) h) : zMi E mJ0_length_8abf5 [.inr (zEk E t + 1)] h Q := by
  (refine eJ0_length_8abf5 200 ?_; simp (disch := omega) only [↓wJ0_length_8abf5_0, ↓wJ0_length_8abf5_1, ↓wJ0_length_8abf5_4, ↓wJ0_length_8abf5_5, ↓wJ0_length_8abf5_6, ↓wJ0_length_8abf5_9, ↓wJ0_length_8abf5_10, zQi_def, zQa_def, zQv_def, nI00, nI10, nI11, nI01, true_or, or_true, false_or, or_false, eq_self, true_implies, false_implies, not_true_eq_false, not_false_eq_true, zc9, zc1, zc2, zc3, zc1000, nI_m9, nI_add, pk_mul, ix_nI, vpT, zk_zpi, zn_zpi, zr_zpi, zk_zpa, zn_zpa, zr_zpa, zsz_zpi, zsz_zpa, zi_zpa, zpi_pa, zpa_zpa, true_and, and_true, and_self])
  refine ⟨t, ht, rfl, t, ht, rfl, t, ht, rfl, ?_⟩
  refine eJ0_coder_7d493 200 ?_
  simp (disch := omega) only [↓wJ0_coder_7d493_0, ↓wJ0_coder_7d493_3, ↓wJ0_coder_7d493_6, ↓wJ0_coder_7d493_7, ↓wJ0_coder_7d493_10, ↓wJ0_coder_7d493_13, ↓wJ0_coder_7d493_14, zQi_def, zQa_def, zQv_def, nI00, nI10, nI11, nI01, true_or, or_true, false_or, or_false, eq_self, true_implies, false_implies, not_true_eq_false, not_false_eq_true, zc9, zc1, zc2, zc3, zc1000, nI_m9, nI_add, pk_mul, ix_nI, vpT, zk_zpi, zn_zpi, zr_zpi, zk_zpa, zn_zpa, zr_zpa, zsz_zpi, zsz_zpa, zi_zpa, zpi_pa, zpa_zpa, true_and, and_true, and_self]
  refine ⟨t, ht, rfl, n0b, ?_⟩
  try simp (disch := omega) only [↓wJ0_length_8abf5_0, ↓wJ0_length_8abf5_1, ↓wJ0_length_8abf5_4, ↓wJ0_length_8abf5_5, ↓wJ0_length_8abf5_6, ↓wJ0_length_8abf5_9, ↓wJ0_length_8abf5_10, zQi_def, zQa_def, zQv_def, nI00, nI10, nI11, nI01, true_or, or_true, false_or, or_false, eq_self, true_implies, false_implies, not_true_eq_false, not_false_eq_true, zc9, zc1, zc2, zc3, zc1000, nI_m9, nI_add, pk_mul, ix_nI, vpT, zk_zpi, zn_zpi, zr_zpi, zk_zpa, zn_zpa, zr_zpa, zsz_zpi, zsz_zpa, zi_zpa, zpi_pa, zpa_zpa, true_and, and_true, and_self]
  have e : nI (zSl t) >>> (nI 0 &&& 31) = nI (zSl t) := by
    rw [show (nI 0 &&& 31 : Int32) = 0 from rfl, Int32.shiftRight_zero]
  rw [e]
  exact hq
theorem v_charAt {E : zE} {Q : Int32 → zH → Prop} {t i : Nat} {h : zH} (ht : t < 9) (hi : i < zSl t) (hq : Q (zSb t i) h) : zMi E mJ0_charAt_5068e [.inr (zEk E t + 1), .inl (nI i)] h Q := by
  have h6 := zSl_le t ht
  obtain ⟨g1, g2⟩ := ch_zSb t ht i hi
  have hle : ¬ zSl t ≤ i := by omega
  (refine eJ0_charAt_5068e 200 ?_; simp (disch := omega) only [↓wJ0_charAt_5068e_0, ↓wJ0_charAt_5068e_1, ↓wJ0_charAt_5068e_4, ↓wJ0_charAt_5068e_7, ↓wJ0_charAt_5068e_8, ↓wJ0_charAt_5068e_11, ↓wJ0_charAt_5068e_12, ↓wJ0_charAt_5068e_15, ↓wJ0_charAt_5068e_16, ↓wJ0_charAt_5068e_17, ↓wJ0_charAt_5068e_20, zQi_def, zQa_def, zQv_def, nI00, nI10, nI11, nI01, true_or, or_true, false_or, or_false, eq_self, true_implies, false_implies, not_true_eq_false, not_false_eq_true, zc9, zc1, zc2, zc3, zc1000, nI_m9, nI_add, pk_mul, ix_nI, vpT, zk_zpi, zn_zpi, zr_zpi, zk_zpa, zn_zpa, zr_zpa, zsz_zpi, zsz_zpa, zi_zpa, zpi_pa, zpa_zpa, true_and, and_true, and_self])
  refine ⟨t, ht, rfl, ?_⟩
  refine eJ0_isLatin1_aae02 200 ?_
  simp (disch := omega) only [↓wJ0_isLatin1_aae02_0, ↓wJ0_isLatin1_aae02_3, ↓wJ0_isLatin1_aae02_6, ↓wJ0_isLatin1_aae02_7, ↓wJ0_isLatin1_aae02_10, ↓wJ0_isLatin1_aae02_13, ↓wJ0_isLatin1_aae02_14, ↓wJ0_isLatin1_aae02_17, ↓wJ0_isLatin1_aae02_18, zQi_def, zQa_def, zQv_def, nI00, nI10, nI11, nI01, true_or, or_true, false_or, or_false, eq_self, true_implies, false_implies, not_true_eq_false, not_false_eq_true, zc9, zc1, zc2, zc3, zc1000, nI_m9, nI_add, pk_mul, ix_nI, vpT, zk_zpi, zn_zpi, zr_zpi, zk_zpa, zn_zpa, zr_zpa, zsz_zpi, zsz_zpa, zi_zpa, zpi_pa, zpa_zpa, true_and, and_true, and_self]
  refine ⟨t, ht, rfl, t, ht, rfl, ?_⟩
  refine eJ1_charAt_3b067 200 ?_
  simp (disch := omega) only [↓wJ1_charAt_3b067_0, ↓wJ1_charAt_3b067_1, ↓wJ1_charAt_3b067_2, ↓wJ1_charAt_3b067_3, ↓wJ1_charAt_3b067_6, ↓wJ1_charAt_3b067_7, ↓wJ1_charAt_3b067_8, ↓wJ1_charAt_3b067_9, ↓wJ1_charAt_3b067_12, ↓wJ1_charAt_3b067_13, ↓wJ1_charAt_3b067_14, zQi_def, zQa_def, zQv_def, nI00, nI10, nI11, nI01, true_or, or_true, false_or, or_false, eq_self, true_implies, false_implies, not_true_eq_false, not_false_eq_true, zc9, zc1, zc2, zc3, zc1000, nI_m9, nI_add, pk_mul, ix_nI, vpT, zk_zpi, zn_zpi, zr_zpi, zk_zpa, zn_zpa, zr_zpa, zsz_zpi, zsz_zpa, zi_zpa, zpi_pa, zpa_zpa, true_and, and_true, and_self]
  refine ⟨t, ht, rfl, ?_⟩
  refine eJ0_checkIndex_df160 200 ?_
  simp (disch := omega) only [↓wJ0_checkIndex_df160_0, ↓wJ0_checkIndex_df160_1, ↓wJ0_checkIndex_df160_2, ↓wJ0_checkIndex_df160_5, ↓wJ0_checkIndex_df160_8, ↓wJ0_checkIndex_df160_9, zQi_def, zQa_def, zQv_def, nI00, nI10, nI11, nI01, true_or, or_true, false_or, or_false, eq_self, true_implies, false_implies, not_true_eq_false, not_false_eq_true, zc9, zc1, zc2, zc3, zc1000, nI_m9, nI_add, pk_mul, ix_nI, vpT, zk_zpi, zn_zpi, zr_zpi, zk_zpa, zn_zpa, zr_zpa, zsz_zpi, zsz_zpa, zi_zpa, zpi_pa, zpa_zpa, true_and, and_true, and_self]
  refine eJ3_checkIndex_8e157 200 ?_
  have hp : (0 ≤ nI i) = True := eq_true (nI_nn (by omega))
  simp (disch := omega) only [↓wJ3_checkIndex_8e157_0, ↓wJ3_checkIndex_8e157_1, ↓wJ3_checkIndex_8e157_4, ↓wJ3_checkIndex_8e157_5, ↓wJ3_checkIndex_8e157_6, ↓wJ3_checkIndex_8e157_9, ↓wJ3_checkIndex_8e157_10, ↓wJ3_checkIndex_8e157_11, ↓wJ3_checkIndex_8e157_16, ↓wJ3_checkIndex_8e157_17, zQi_def, zQa_def, zQv_def, nI00, nI10, nI11, nI01, true_or, or_true, false_or, or_false, eq_self, true_implies, false_implies, not_true_eq_false, not_false_eq_true, zc9, zc1, zc2, zc3, zc1000, nI_m9, nI_add, pk_mul, ix_nI, vpT, zk_zpi, zn_zpi, zr_zpi, zk_zpa, zn_zpa, zr_zpa, zsz_zpi, zsz_zpa, zi_zpa, zpi_pa, zpa_zpa, true_and, and_true, and_self, nI_leI, ltle, hle, hp]
  refine ⟨t, ht, rfl, ?_, ?_, ?_, ?_⟩
  · rw [vpT hi (by omega)]; trivial
  · rw [g1]; exact g2
  · rw [g1]; exact g2
  · rw [g1]; exact hq
