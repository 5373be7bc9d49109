/-! The law: the class at one state, and the small methods. -/
def FF (r sv tx : Nat → Int32) : Nat → Nat → Int32 := fun i => match i with
  | 1 => r
  | 4 => sv
  | 5 => tx
  | _ => fun _ => 0
/-- the class at x holds the row r -/
def ST (h : zH) (x : Nat) (r sv tx : Nat → Int32) (s L nr nk n td : Nat) : Prop := CI' h x r sv tx s L ∧ WR h (x + 1 + 1) r nr nk n td
section STs
variable {E : zE} {Q : Int32 → zH → Prop} {h : zH} {x : Nat} {r sv tx : Nat → Int32} {s L nr nk n td : Nat} {a b c : Int32}
theorem ST.k9 (hS : ST h x r sv tx s L nr nk n td) : zk h x = 9 := hS.1.1.1.1
theorem ST.CR (hS : ST h x r sv tx s L nr nk n td) : ∃ p, CR (fun j => zi h (x + 1 + 1 + j)) p r nr nk n td := by
  obtain ⟨-, -, p, -, hR⟩ := hS
  exact ⟨p, hR⟩
theorem ST.RI (hS : ST h x r sv tx s L nr nk n td) : RI r nr nk n td := by
  obtain ⟨p, hR⟩ := hS.CR
  exact hR.1
theorem ST.XI (hS : ST h x r sv tx s L nr nk n td) : XI r nr nk n td := by
  obtain ⟨p, hR⟩ := hS.CR
  exact hR.2.1
theorem s_count (hS : ST h x r sv tx s L nr nk n td) (hq : Q (qCnt r nk s L a) h) : zMi E mX8_count [.inr x, .inl a] h Q := pb_count (F := FF r sv tx) hS.1 hS.2 hq
theorem s_rock (hS : ST h x r sv tx s L nr nk n td) (hq : Q (qRock r nr nk n a b) h) : zMi E mX8_rock [.inr x, .inl a, .inl b] h Q := pb_rock (F := FF r sv tx) hS.1 hS.2 hq
theorem s_store (hS : ST h x r sv tx s L nr nk n td) (hq : Q (qSto r nr nk a b c) h) : zMi E mX8_store [.inr x, .inl a, .inl b, .inl c] h Q := pb_store (F := FF r sv tx) hS.1 hS.2 hq
theorem s_keeper (hS : ST h x r sv tx s L nr nk n td) (hq : Q (qKee r nk a b) h) : zMi E mX8_keeper [.inr x, .inl a, .inl b] h Q := pb_keeper (F := FF r sv tx) hS.1 hS.2 hq
theorem s_turn (hS : ST h x r sv tx s L nr nk n td) (hq : Q (qTur r n a b) h) : zMi E mX8_turn [.inr x, .inl a, .inl b] h Q := pb_turn (F := FF r sv tx) hS.1 hS.2 hq
theorem s_sea (hS : ST h x r sv tx s L nr nk n td) (hq : Q (qSea r a b) h) : zMi E mX8_sea [.inr x, .inl a, .inl b] h Q := pb_sea (F := FF r sv tx) hS.1 hS.2 hq
theorem s_landing (hS : ST h x r sv tx s L nr nk n td) (hq : Q (qLan r nr a b) h) : zMi E mX8_landing [.inr x, .inl a, .inl b] h Q := pb_landing (F := FF r sv tx) hS.1 hS.2 hq
theorem s_lasts (hS : ST h x r sv tx s L nr nk n td) (hq : Q (qLas r nr nk a b) h) : zMi E mX8_lasts [.inr x, .inl a, .inl b] h Q := pb_lasts (F := FF r sv tx) hS.1 hS.2 hq
theorem s_nextOut (hS : ST h x r sv tx s L nr nk n td) (hq : Q (nOu r n nk 0 (-9)) h) : zMi E mX8_nextOut [.inr x] h Q := pb_nextOut (F := FF r sv tx) hS.1 hS.2 hq
theorem s_nextIn (hS : ST h x r sv tx s L nr nk n td) (hq : Q (nIn_ r n nk 0 (-9)) h) : zMi E mX8_nextIn [.inr x] h Q := pb_nextIn (F := FF r sv tx) hS.1 hS.2 hq
end STs
theorem qCnt_i {r : Nat → Int32} {nk s L i : Nat} (h : i < 9) : qCnt r nk s L (nI i) = qCnt r nk 0 0 (nI i) := by
  unfold qCnt
  rw [nIn (by omega)]
  (repeat' split) <;> first | rfl | omega
theorem qCnt0 {r : Nat → Int32} {nk s L : Nat} : qCnt r nk s L (nI 0) = r 0 := rfl
theorem qCnt1 {r : Nat → Int32} {nk s L : Nat} : qCnt r nk s L (nI 1) = r 1 := rfl
theorem qCnt2 {r : Nat → Int32} {nk s L : Nat} : qCnt r nk s L (nI 2) = r 2 := rfl
theorem qCnt3 {r : Nat → Int32} {nk s L : Nat} : qCnt r nk s L (nI 3) = r 3 := rfl
theorem qCnt4 {r : Nat → Int32} {nk s L : Nat} : qCnt r nk s L (nI 4) = nI (kO r (-9) nk) := rfl
theorem qCnt5 {r : Nat → Int32} {nk s L : Nat} : qCnt r nk s L (nI 5) = r 4 := rfl
theorem qCnt6 {r : Nat → Int32} {nk s L : Nat} : qCnt r nk s L (nI 6) = r 5 := rfl
-- low
theorem dlow_0 : decode (zMb mL_low) 0 = .ok (.iload_n 0, 1) := by decide +kernel
theorem dlow_1 : decode (zMb mL_low) 1 = .ok (.ldc 7, 2) := by decide +kernel
theorem dlow_3 : decode (zMb mL_low) 3 = .ok (.iand, 1) := by decide +kernel
theorem dlow_4 : decode (zMb mL_low) 4 = .ok (.iload_n 1, 1) := by decide +kernel
theorem dlow_5 : decode (zMb mL_low) 5 = .ok (.irem, 1) := by decide +kernel
theorem dlow_6 : decode (zMb mL_low) 6 = .ok (.ireturn, 1) := by decide +kernel
set_option maxRecDepth 100000 in
theorem oklow : zMB mL_low = true := by decide +kernel
set_option maxRecDepth 100000 in
theorem cstlow : zw 512 (.constant RL 7 (2147483647 : Int32)) = true := by decide +kernel
def lwv (v w : Int32) : Int32 := (v &&& 2147483647) - (v &&& 2147483647) / w * w
theorem low_raw {E : zE} {Q : Int32 → zH → Prop} {v w : Int32} {h : zH} (hw : ¬ w = 0) (hq : Q (lwv v w) h) : zMi E mL_low [.inl v, .inl w] h Q := by
  obtain ⟨w1, w2, -⟩ := zMB_spec oklow
  refine Met.ofW (cc := zMb mL_low) (maxL := 2) (ret := some .int) w1 rfl ?_
  intro p e s m args below meth c s₁ B hml hv
  obtain ⟨rfl, hR, hKK⟩ := hv
  have hts := atoms_spec (ws := zws mL_low) B.pre
  have hown : s.vm.findClass RL = some m.cls := findClass_of_methodNamed B.named
  have hl := lv_entry (([.inl v, .inl w] : List zV).map zval) (n := 2) (by rw [zlg_len]; exact Nat.le_of_ble_eq_true rfl)
  rw [lg_entry_eq]
  have hx := B.exec
  have hb := B.bytes
  have hlocks := B.notSynchronized
  refine lv_iload_n hx hb dlow_0 rfl (lv_at hl 0 rfl) ?_
  refine lv_ldc hx hb hown (hts _ (List.mem_cons_of_mem _ (zw_spec cstlow))) dlow_1 ?_
  refine lv_iand hx hb dlow_3 ?_
  refine lv_iload_n hx hb dlow_4 rfl (lv_at hl 1 rfl) ?_
  refine lv_irem hx hb dlow_5 hw ?_
  refine W.widen (k := (zMo mL_low).cells) (n := (zMo mL_low).slots) (Nat.zero_le _) (Nat.zero_le _) ?_
  have hS : va_S (fun q => zElo E ≤ q) s.heap s.heap [] := va_S.rf
  exact W.iret hx hb B.returns (fun t ht hW => ⟨⟨some (.inl (lwv v w)), h, rfl, ⟨_, rfl, hq⟩, by rw [ht]; exact hR⟩, hS.F ht⟩) hS.2.2 dlow_6
def lw (v : Int32) (m : Nat) : Nat := (v &&& 2147483647).toInt.toNat % m
theorem and_nn (v : Int32) : 0 ≤ (v &&& 2147483647).toInt := by
  have h : (v &&& 2147483647).toBitVec.msb = false := by
    rw [Int32.toBitVec_and, BitVec.msb_and]
    have : (2147483647 : Int32).toBitVec.msb = false := by decide
    rw [this, Bool.and_false]
  have h2 := BitVec.toInt_eq_msb_cond (x := (v &&& 2147483647).toBitVec)
  rw [h] at h2
  show 0 ≤ (v &&& 2147483647).toBitVec.toInt
  rw [h2]
  simp
theorem lwv_eq (v : Int32) {m : Nat} (h0 : 0 < m) (hm : m < 2147483648) : lwv v (nI m) = nI (lw v m) := by
  obtain ⟨j, hj, e⟩ := i32of (n := 2147483647) (and_nn v) (by have := (i32b (v &&& 2147483647)).2; omega) (by omega)
  have hlw : lw v m = j % m := by unfold lw; rw [e, nIn (by omega)]; rfl
  unfold lwv
  rw [hlw, e]
  exact pk_rem (by omega) h0 hm
theorem lw_lt (v : Int32) {m : Nat} (h0 : 0 < m) : lw v m < m := Nat.mod_lt _ h0
theorem c_low {E : zE} {Q : Int32 → zH → Prop} {v : Int32} {m : Nat} {h : zH} (h0 : 0 < m) (hm : m < 2147483648) (hq : Q (nI (lw v m)) h) : zMi E mL_low [.inl v, .inl (nI m)] h Q :=
  low_raw (by rw [nI_eq0 hm]; omega) (by rw [lwv_eq v h0 hm]; exact hq)
def celv (E : zE) (k : Nat) : Int32 := if k < zEL E then zEx E k else nI 7919 * (nI k + nI 3) * (nI k + nI 11)
theorem c_cell {E : zE} {Q : Int32 → zH → Prop} {k : Nat} {h : zH} (hL : zEL E ≤ 260) (hk : k < 1000) (hq : Q (celv E k) h) : zMi E mL_cell [.inr (zEb E + 1), .inl (nI k)] h Q := by
  unfold celv at hq
  refine eL_cell 200 ?_
  by_cases hlt : k < zEL E
  · rw [if_pos hlt] at hq
    have e1 : (nI (zEL E) ≤ nI k) = False := eq_false (by rw [nI_leI (by omega) (by omega)]; omega)
    have e2 : vp_in (nI k) (zEL E) = True := vpT hlt (by omega)
    simp (disch := omega) only [↓wL_cell_0, ↓wL_cell_1, ↓wL_cell_2, ↓wL_cell_3, ↓wL_cell_6, ↓wL_cell_7, ↓wL_cell_8, ↓wL_cell_9, ↓wL_cell_12, ↓wL_cell_15, ↓wL_cell_16, ↓wL_cell_17, ↓wL_cell_18, ↓wL_cell_19, ↓wL_cell_20, ↓wL_cell_22, ↓wL_cell_23, ↓wL_cell_24, zQi_def, zQa_def, zQv_def, nI00, nI10, nI11, nI01, true_or, or_true, false_or, or_false, eq_self, true_implies, false_implies, not_true_eq_false, not_false_eq_true, zc9, zc1, zc2, zc3, zc1000, nI_m9, nI_add, pk_mul, ix_nI, vpT, zk_zpi, zn_zpi, zr_zpi, zk_zpa, zn_zpa, zr_zpa, zsz_zpi, zsz_zpa, zi_zpa, zpi_pa, zpa_zpa, true_and, and_true, and_self, e1, e2]
    exact hq
  · rw [if_neg hlt] at hq
    have e1 : (nI (zEL E) ≤ nI k) = True := eq_true (by rw [nI_leI (by omega) (by omega)]; omega)
    simp only [↓wL_cell_0, ↓wL_cell_1, ↓wL_cell_2, ↓wL_cell_3, ↓wL_cell_6, ↓wL_cell_7, ↓wL_cell_8, ↓wL_cell_9, ↓wL_cell_12, ↓wL_cell_15, ↓wL_cell_16, ↓wL_cell_17, ↓wL_cell_18, ↓wL_cell_19, ↓wL_cell_20, ↓wL_cell_22, ↓wL_cell_23, ↓wL_cell_24, zQi_def, zQa_def, zQv_def, e1, not_true_eq_false, true_implies, false_implies, and_true]
    exact ⟨trivial, hq⟩
