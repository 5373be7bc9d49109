/-! The class: states and their history. -/
def SM (h h' : zH) (c : Nat) : Prop := zk h' c = zk h c ∧ zn h' c = zn h c ∧ zi h' c = zi h c ∧ zr h' c = zr h c
def SAME (h h' : zH) (a b : Nat) : Prop := ∀ c, a ≤ c → c < b → SM h h' c
def OUT (h h' : zH) (a b : Nat) : Prop := zsz h ≤ zsz h' ∧ ∀ c, c < zsz h → c < a ∨ b ≤ c → SM h h' c
theorem SM_rf (h : zH) (c : Nat) : SM h h c := ⟨rfl, rfl, rfl, rfl⟩
theorem SM_tr {h h1 h2 : zH} {c : Nat} (a : SM h h1 c) (b : SM h1 h2 c) : SM h h2 c := ⟨b.1.trans a.1, b.2.1.trans a.2.1, b.2.2.1.trans a.2.2.1, b.2.2.2.trans a.2.2.2⟩
theorem OUT_rf (h : zH) (a b : Nat) : OUT h h a b := ⟨Nat.le_refl _, fun c _ _ => SM_rf h c⟩
theorem OUT_tr {h h1 h2 : zH} {a b : Nat} (p : OUT h h1 a b) (q : OUT h1 h2 a b) : OUT h h2 a b := ⟨Nat.le_trans p.1 q.1, fun c h1' h2' => SM_tr (p.2 c h1' h2') (q.2 c (Nat.lt_of_lt_of_le h1' p.1) h2')⟩
theorem OUT_mono {h h' : zH} {a b a' b' : Nat} (p : OUT h h' a b) (ha : a' ≤ a) (hb : b ≤ b') : OUT h h' a' b' := ⟨p.1, fun c h1 h2 => p.2 c h1 (by omega)⟩
theorem OUT_same {h h' : zH} {a b c d : Nat} (p : OUT h h' a b) (hd : d ≤ zsz h) (hx : d ≤ a ∨ b ≤ c) : SAME h h' c d := fun e e1 e2 => p.2 e (by omega) (by omega)
theorem SAME_mono {h h' : zH} {a b a' b' : Nat} (p : SAME h h' a b) (ha : a ≤ a') (hb : b' ≤ b) : SAME h h' a' b' := fun c c1 c2 => p c (by omega) (by omega)
def WR (h : zH) (w : Nat) (r : Nat → Int32) (nr nk n td : Nat) : Prop := WS h w ∧ ∃ p, (∀ k, k < 12 → zr h (w + 5) k = w + (29 + p k)) ∧ CR (fun j => zi h (w + j)) p r nr nk n td
def WX (h : zH) (w : Nat) (r : Nat → Int32) : Prop := ∃ nr nk n td, WR h w r nr nk n td
def WP (h : zH) (w : Nat) : Prop := WS h w ∧ ∃ p, PM p ∧ ∀ k, k < 12 → zr h (w + 5) k = w + (29 + p k)
theorem WP_X {h : zH} {w : Nat} {r : Nat → Int32} (hW : WX h w r) : WP h w := by
  obtain ⟨nr, nk, n, td, hw, p, hp, hR⟩ := hW
  exact ⟨hw, p, hR.2.2.2.2.2.2.2, hp⟩
theorem WS_tr {h h' : zH} {w : Nat} (hw : WS h w) (hs : ∀ c, w ≤ c → c < w + 41 → zk h' c = zk h c ∧ zn h' c = zn h c ∧ (c ≠ w + 5 → zr h' c = zr h c)) : WS h' w := by
  obtain ⟨wk, ⟨wr7, wr8, wr9, wr10, wr11⟩, ⟨wk1, wk2, wk3, wk4, wk5⟩, ⟨wn1, wn2, wn3, wn4, wn5⟩, ⟨wRr, wRk, wR5, wRs, wRn⟩, ⟨wSr, wSk⟩, ⟨wKr, wKk⟩, wTk⟩ := id hw
  have kk : ∀ j, j < 41 → zk h' (w + j) = zk h (w + j) := fun j hj => (hs (w + j) (by omega) (by omega)).1
  have nn : ∀ j, j < 41 → zn h' (w + j) = zn h (w + j) := fun j hj => (hs (w + j) (by omega) (by omega)).2.1
  have rr : ∀ j, j < 41 → j ≠ 5 → zr h' (w + j) = zr h (w + j) := fun j hj h5 => (hs (w + j) (by omega) (by omega)).2.2 (by omega)
  have k0 := kk 0 (by omega)
  have r0 := rr 0 (by omega) (by omega)
  rw [Nat.add_zero] at k0 r0
  refine ⟨by rw [k0]; exact wk, by rw [r0]; exact ⟨wr7, wr8, wr9, wr10, wr11⟩, ?_, ?_, ⟨?_, ?_, ?_, ?_, ?_⟩, ⟨?_, ?_⟩, ⟨?_, ?_⟩, ?_⟩
  · rw [kk 1 (by omega), kk 2 (by omega), kk 3 (by omega), kk 4 (by omega), kk 5 (by omega)]; exact ⟨wk1, wk2, wk3, wk4, wk5⟩
  · rw [nn 1 (by omega), nn 2 (by omega), nn 3 (by omega), nn 4 (by omega), nn 5 (by omega)]; exact ⟨wn1, wn2, wn3, wn4, wn5⟩
  · intro i hi; rw [rr 3 (by omega) (by omega)]; exact wRr i hi
  · intro i hi; rw [kk _ (by omega)]; exact wRk i hi
  · intro i hi; rw [rr _ (by omega) (by omega)]; exact wR5 i hi
  · intro i hi; rw [kk _ (by omega)]; exact wRs i hi
  · intro i hi; rw [nn _ (by omega)]; exact wRn i hi
  · intro i s hi hs'; rw [rr _ (by omega) (by omega)]; exact wSr i s hi hs'
  · intro i s hi hs'; rw [kk _ (by omega)]; exact wSk i s hi hs'
  · intro k hk; rw [rr 4 (by omega) (by omega)]; exact wKr k hk
  · intro k hk; rw [kk _ (by omega)]; exact wKk k hk
  · intro t ht; rw [kk _ (by omega)]; exact wTk t ht
theorem CPY_of {G G' : Nat → Nat → Int32} {p : Nat → Nat} (h : ∀ j, j < 41 → G' j = G j) (hP : PM p) : CPY G' p G p :=
  ⟨⟨fun f _ => by rw [h 0 (by omega)], fun f _ => by rw [h 1 (by omega)], fun f _ => by rw [h 2 (by omega)]⟩, fun i hi => ⟨fun f _ => by rw [h _ (by omega)], fun s hs f _ => by rw [h _ (by omega)]⟩, fun k hk f _ => by rw [h _ (by omega)], fun t ht f _ => by have := hP.1 t ht; rw [h _ (by omega)]⟩
theorem CR_G {G G' : Nat → Nat → Int32} {p : Nat → Nat} {r : Nat → Int32} {nr nk n td : Nat} (h : ∀ j, j < 41 → G' j = G j) (hR : CR G p r nr nk n td) : CR G' p r nr nk n td := CR_copy (CPY_of h hR.2.2.2.2.2.2.2) hR.2.2.2.2.2.2.2 hR
theorem WR_tr {h h' : zH} {w : Nat} {r : Nat → Int32} {nr nk n td : Nat} (hW : WR h w r nr nk n td) (hs : SAME h h' w (w + 41)) : WR h' w r nr nk n td := by
  obtain ⟨hw, p, hp, hR⟩ := hW
  refine ⟨WS_tr hw (fun c c1 c2 => ⟨(hs c c1 c2).1, (hs c c1 c2).2.1, fun _ => (hs c c1 c2).2.2.2⟩), p, fun k hk => ?_, CR_G (fun j hj => (hs (w + j) (by omega) (by omega)).2.2.1) hR⟩
  rw [(hs (w + 5) (by omega) (by omega)).2.2.2]; exact hp k hk
theorem WX_tr {h h' : zH} {w : Nat} {r : Nat → Int32} (hW : WX h w r) (hs : SAME h h' w (w + 41)) : WX h' w r := by
  obtain ⟨nr, nk, n, td, hW⟩ := hW
  exact ⟨nr, nk, n, td, WR_tr hW hs⟩
theorem WP_tr {h h' : zH} {w : Nat} (hW : WP h w) (hs : SAME h h' w (w + 41)) : WP h' w := by
  obtain ⟨hw, p, hP, hp⟩ := hW
  refine ⟨WS_tr hw (fun c c1 c2 => ⟨(hs c c1 c2).1, (hs c c1 c2).2.1, fun _ => (hs c c1 c2).2.2.2⟩), p, hP, fun k hk => ?_⟩
  rw [(hs (w + 5) (by omega) (by omega)).2.2.2]; exact hp k hk
theorem SM_WST (h : zH) {w c : Nat} (G : Nat → Nat → Int32) (p : Nat → Nat) (hc : c < w ∨ w + 41 ≤ c) : SM h (WST h w G p) c := ⟨rfl, rfl, zi_WSTN h G p hc, zr_WSTN h G p (by omega)⟩
theorem OUT_WST (h : zH) (w : Nat) (G : Nat → Nat → Int32) (p : Nat → Nat) : OUT h (WST h w G p) w (w + 41) := ⟨Nat.le_refl _, fun c _ hc => SM_WST h G p hc⟩
theorem WS_WST {h : zH} {w : Nat} (G : Nat → Nat → Int32) (p : Nat → Nat) (hw : WS h w) : WS (WST h w G p) w := WS_tr hw (fun c _ _ => ⟨rfl, rfl, fun hc => zr_WSTN h G p hc⟩)
theorem WR_WST {h : zH} {w : Nat} {G : Nat → Nat → Int32} {p : Nat → Nat} {r : Nat → Int32} {nr nk n td : Nat} (hw : WS h w) (hR : CR G p r nr nk n td) : WR (WST h w G p) w r nr nk n td :=
  ⟨WS_WST G p hw, p, fun k hk => zr_WST5 h G p hk, CR_G (fun j hj => zi_WST h G p hj) hR⟩
theorem WP_WST {h : zH} {w : Nat} {G : Nat → Nat → Int32} {p : Nat → Nat} (hw : WS h w) (hP : PM p) : WP (WST h w G p) w := ⟨WS_WST G p hw, p, hP, fun k hk => zr_WST5 h G p hk⟩
def ACTW (Q : Int32 → zH → Prop) (h : zH) (w : Nat) (o : Int32 × Option (Nat → Int32)) : Prop := match o.2 with
  | none => o.1 < 0 → Q o.1 h
  | some r' => 0 ≤ o.1 → ∀ h', zsz h' = zsz h → OUT h h' w (w + 41) → WX h' w r' → Q o.1 h'
theorem W_lift {E : zE} {M : zM} {av : List zV} {w : Nat} {h : zH} {r : Nat → Int32} {nr nk n td : Nat} {o : Int32 × Option (Nat → Int32)} {Q : Int32 → zH → Prop} (hW : WR h w r nr nk n td)
    (c : ∀ (G : Nat → Nat → Int32) (p : Nat → Nat), WS h w → CR G p r nr nk n td → ACT Q h w G p o → zMi E M av (WST h w G p) Q) (hq : ACTW Q h w o) : zMi E M av h Q := by
  obtain ⟨hw, p, hp, hR⟩ := hW
  have e := WST_self hp
  rcases o with ⟨a, _ | r'⟩
  · have t := c _ p hw hR (show ACT Q h w _ p (a, none) from fun h0 => by rw [e]; exact hq h0)
    rw [e] at t
    exact t
  · have t := c _ p hw hR (show ACT Q h w _ p (a, some r') from fun h0 G' p' ⟨nr', nk', n', td', hR'⟩ => hq h0 _ rfl (OUT_WST h w G' p') ⟨nr', nk', n', td', WR_WST hw hR'⟩)
    rw [e] at t
    exact t
theorem Q_lift {E : zE} {M : zM} {av : List zV} {w : Nat} {h : zH} {r : Nat → Int32} {nr nk n td : Nat} {a : Int32} {Q : Int32 → zH → Prop} (hW : WR h w r nr nk n td)
    (c : ∀ (G : Nat → Nat → Int32) (p : Nat → Nat), WS h w → CR G p r nr nk n td → Q a (WST h w G p) → zMi E M av (WST h w G p) Q) (hq : Q a h) : zMi E M av h Q := by
  obtain ⟨hw, p, hp, hR⟩ := hW
  have e := WST_self hp
  have t := c _ p hw hR (by rw [e]; exact hq)
  rw [e] at t
  exact t
/-- a state of the history -/
def SP (h : zH) (st : Nat) : Prop := zk h st = 4 ∧ zr h st 0 = st + 1 ∧ zr h st 1 = st + 42 ∧ zk h (st + 42) = 27 ∧ zn h (st + 42) = 2 ∧ WP h (st + 1)
def SN (h : zH) (B st : Nat) (r : Nat → Int32) : Prop := ∀ j, j < 2 → (zr h (st + 42) j = 0 ∧ r (433 + 434 * j) = nI 0) ∨ (r (433 + 434 * j) = nI 1 ∧ B ≤ zr h (st + 42) j ∧ zr h (st + 42) j + 41 ≤ zsz h ∧ WX h (zr h (st + 42) j) (fun k => r (433 + 434 * j + 1 + k)))
def SR (h : zH) (B st : Nat) (r : Nat → Int32) : Prop := WX h (st + 1) r ∧ SN h B st r
theorem SP_tr {h h' : zH} {st : Nat} (hS : SP h st) (hs : SAME h h' st (st + 43)) : SP h' st := by
  obtain ⟨s1, s2, s3, s4, s5, s6⟩ := hS
  obtain ⟨a1, a2, a3, a4⟩ := hs st (by omega) (by omega)
  obtain ⟨b1, b2, b3, b4⟩ := hs (st + 42) (by omega) (by omega)
  exact ⟨by rw [a1]; exact s1, by rw [a4]; exact s2, by rw [a4]; exact s3, by rw [b1]; exact s4, by rw [b2]; exact s5, WP_tr s6 (SAME_mono hs (by omega) (by omega))⟩
theorem SN_tr {h h' : zH} {B st : Nat} {r r' : Nat → Int32} (hS : SN h B st r) (hz : zsz h ≤ zsz h') (hs : SM h h' (st + 42)) (hB : SAME h h' B (zsz h)) (hr : ∀ k, 433 ≤ k → r' k = r k) : SN h' B st r' := by
  intro j hj
  rw [hs.2.2.2, hr _ (by omega)]
  rcases hS j hj with q | ⟨q1, q2, q3, q4⟩
  · exact Or.inl q
  · refine Or.inr ⟨q1, q2, by omega, ?_⟩
    have e : (fun k => r' (433 + 434 * j + 1 + k)) = (fun k => r (433 + 434 * j + 1 + k)) := funext fun k => hr _ (by omega)
    rw [e]
    exact WX_tr q4 (SAME_mono hB q2 q3)
theorem SR_tr {h h' : zH} {B st : Nat} {r : Nat → Int32} (hS : SR h B st r) (hz : zsz h ≤ zsz h') (hs : SAME h h' st (st + 43)) (hB : SAME h h' B (zsz h)) : SR h' B st r :=
  ⟨WX_tr hS.1 (SAME_mono hs (by omega) (by omega)), SN_tr hS.2 hz (hs _ (by omega) (by omega)) hB (fun k _ => rfl)⟩
theorem SR_out {h h' : zH} {B st a b : Nat} {r : Nat → Int32} (hS : SR h B st r) (hO : OUT h h' a b) (hst : st + 43 ≤ zsz h) (hd : st + 43 ≤ a ∨ b ≤ st) (hb : b ≤ B) : SR h' B st r :=
  SR_tr hS hO.1 (OUT_same hO hst hd) (fun c c1 c2 => hO.2 c c2 (Or.inr (by omega)))
theorem zAk27' : zAk (27 - 20) + 1 = 8 := rfl
theorem v_copy3 {E : zE} {Q : zH → Prop} {a b : Nat} {h : zH} (ha : SP h a) (hb : SP h b) (hd : a + 43 ≤ b ∨ b + 43 ≤ a) (haz : a + 43 ≤ zsz h) (hsn : ∀ j, j < 2 → zr h (b + 42) j = 0 ∨ zk h (zr h (b + 42) j) = 8)
    (hq : ∀ h', zsz h' = zsz h → OUT h h' a (a + 43) → SP h' a → (∀ B r, SR h B b r → a + 43 ≤ B → SR h' B a r) → Q h') : zMv E mX3_copyFrom [.inr a, .inr b] h Q := by
  obtain ⟨s1, s2, s3, s4, s5, hw, p, hP, hp⟩ := id ha
  obtain ⟨t1, t2, t3, t4, t5, hx, pv, hPv, hpv⟩ := id hb
  have e := WST_self hp
  have wk := hw.1
  (refine eX3_copyFrom 200 ?_; simp (disch := omega) only [↓wX3_copyFrom_0, ↓wX3_copyFrom_1, ↓wX3_copyFrom_4, ↓wX3_copyFrom_5, ↓wX3_copyFrom_8, ↓wX3_copyFrom_11, ↓wX3_copyFrom_12, ↓wX3_copyFrom_13, ↓wX3_copyFrom_14, ↓wX3_copyFrom_15, ↓wX3_copyFrom_18, ↓wX3_copyFrom_19, ↓wX3_copyFrom_22, ↓wX3_copyFrom_23, ↓wX3_copyFrom_24, ↓wX3_copyFrom_27, ↓wX3_copyFrom_28, ↓wX3_copyFrom_29, ↓wX3_copyFrom_30, ↓wX3_copyFrom_33, ↓wX3_copyFrom_36, zQi_def, zQa_def, zQv_def, nI00, nI10, nI11, nI01, true_or, or_true, false_or, or_false, eq_self, true_implies, false_implies, not_true_eq_false, not_false_eq_true, zc9, zc1, zc2, zc3, zc1000, nI_m9, nI_add, pk_mul, ix_nI, vpT, zk_zpi, zn_zpi, zr_zpi, zk_zpa, zn_zpa, zr_zpa, zsz_zpi, zsz_zpa, zi_zpa, zpi_pa, zpa_zpa, true_and, and_true, and_self, s1, s2, t1, t2, wk])
  have key := v_copy7 (E := E) (h := h) (G := fun j => zi h (a + 1 + j)) (p := p) (pv := pv) hw hx (by omega) hP (fun k hk => ⟨hPv.1 k hk, hpv k hk⟩) (Q := fun h => zJ E mX3_copyFrom (zQv Q) 13 [some (.inr a), some (.inr b), some (.inl (nI 0))] [] h 0 0) ?_
  · rw [e] at key
    exact key
  intro G' hC
  generalize hh1 : WST h (a + 1) G' p = h1
  have hO1 : OUT h h1 (a + 1) (a + 42) := by rw [← hh1]; exact OUT_WST h (a + 1) G' p
  have hz1 : zsz h1 = zsz h := by rw [← hh1]; rfl
  have kk : zk h1 = zk h := by rw [← hh1]; rfl
  have nn : zn h1 = zn h := by rw [← hh1]; rfl
  have rr : ∀ c, c ≠ a + 6 → zr h1 c = zr h c := fun c hc => by rw [← hh1]; exact zr_WSTN h G' p (by omega)
  have u1 : ¬ 2 ≤ 0 := by omega
  have u2 : ¬ 2 ≤ 1 := by omega
  have n0 := hsn 0 (by omega)
  have n1 := hsn 1 (by omega)
  refine jX3_copyFrom 200 ?_
  simp (disch := omega) only [↓wX3_copyFrom_0, ↓wX3_copyFrom_1, ↓wX3_copyFrom_4, ↓wX3_copyFrom_5, ↓wX3_copyFrom_8, ↓wX3_copyFrom_11, ↓wX3_copyFrom_12, ↓wX3_copyFrom_13, ↓wX3_copyFrom_14, ↓wX3_copyFrom_15, ↓wX3_copyFrom_18, ↓wX3_copyFrom_19, ↓wX3_copyFrom_22, ↓wX3_copyFrom_23, ↓wX3_copyFrom_24, ↓wX3_copyFrom_27, ↓wX3_copyFrom_28, ↓wX3_copyFrom_29, ↓wX3_copyFrom_30, ↓wX3_copyFrom_33, ↓wX3_copyFrom_36, zQi_def, zQa_def, zQv_def, nI00, nI10, nI11, nI01, true_or, or_true, false_or, or_false, eq_self, true_implies, false_implies, not_true_eq_false, not_false_eq_true, zc9, zc1, zc2, zc3, zc1000, nI_m9, nI_add, pk_mul, ix_nI, vpT, zk_zpi, zn_zpi, zr_zpi, zk_zpa, zn_zpa, zr_zpa, zsz_zpi, zsz_zpa, zi_zpa, zpi_pa, zpa_zpa, true_and, and_true, and_self, nI_leI, u1, kk, nn, rr, s1, s3, s4, s5, t1, t3, t4, t5, q27, zAk27']
  refine ⟨n0, ?_⟩
  refine jX3_copyFrom 200 ?_
  simp (disch := omega) only [↓wX3_copyFrom_0, ↓wX3_copyFrom_1, ↓wX3_copyFrom_4, ↓wX3_copyFrom_5, ↓wX3_copyFrom_8, ↓wX3_copyFrom_11, ↓wX3_copyFrom_12, ↓wX3_copyFrom_13, ↓wX3_copyFrom_14, ↓wX3_copyFrom_15, ↓wX3_copyFrom_18, ↓wX3_copyFrom_19, ↓wX3_copyFrom_22, ↓wX3_copyFrom_23, ↓wX3_copyFrom_24, ↓wX3_copyFrom_27, ↓wX3_copyFrom_28, ↓wX3_copyFrom_29, ↓wX3_copyFrom_30, ↓wX3_copyFrom_33, ↓wX3_copyFrom_36, zQi_def, zQa_def, zQv_def, nI00, nI10, nI11, nI01, true_or, or_true, false_or, or_false, eq_self, true_implies, false_implies, not_true_eq_false, not_false_eq_true, zc9, zc1, zc2, zc3, zc1000, nI_m9, nI_add, pk_mul, ix_nI, vpT, zk_zpi, zn_zpi, zr_zpi, zk_zpa, zn_zpa, zr_zpa, zsz_zpi, zsz_zpa, zi_zpa, zpi_pa, zpa_zpa, true_and, and_true, and_self, nI_leI, u2, zk_zpr, zn_zpr, zr_zprF, kk, nn, rr, s1, s3, s4, s5, t1, t3, t4, t5, q27, zAk27']
  refine ⟨n1, ?_⟩
  refine jX3_copyFrom 200 ?_
  simp (disch := omega) only [↓wX3_copyFrom_0, ↓wX3_copyFrom_1, ↓wX3_copyFrom_4, ↓wX3_copyFrom_5, ↓wX3_copyFrom_8, ↓wX3_copyFrom_11, ↓wX3_copyFrom_12, ↓wX3_copyFrom_13, ↓wX3_copyFrom_14, ↓wX3_copyFrom_15, ↓wX3_copyFrom_18, ↓wX3_copyFrom_19, ↓wX3_copyFrom_22, ↓wX3_copyFrom_23, ↓wX3_copyFrom_24, ↓wX3_copyFrom_27, ↓wX3_copyFrom_28, ↓wX3_copyFrom_29, ↓wX3_copyFrom_30, ↓wX3_copyFrom_33, ↓wX3_copyFrom_36, zQi_def, zQa_def, zQv_def, nI00, nI10, nI11, nI01, true_or, or_true, false_or, or_false, eq_self, true_implies, false_implies, not_true_eq_false, not_false_eq_true, zc9, zc1, zc2, zc3, zc1000, nI_m9, nI_add, pk_mul, ix_nI, vpT, zk_zpi, zn_zpi, zr_zpi, zk_zpa, zn_zpa, zr_zpa, zsz_zpi, zsz_zpa, zi_zpa, zpi_pa, zpa_zpa, true_and, and_true, and_self, nI_leI, Nat.le_refl]
  generalize hh3 : zpr (zpr h1 (a + 42) 0 (zr h (b + 42) 0)) (a + 42) 1 (zr h (b + 42) 1) = h3
  have g0 : zr h3 (a + 42) 0 = zr h (b + 42) 0 := by rw [← hh3, zr_zprN _ (by omega), zr_zprE _ rfl rfl]
  have g1 : zr h3 (a + 42) 1 = zr h (b + 42) 1 := by rw [← hh3, zr_zprE _ rfl rfl]
  have sm3 : ∀ c, c ≠ a + 42 → SM h1 h3 c := fun c hc => by rw [← hh3]; exact ⟨rfl, rfl, rfl, by rw [zr_zprF _ hc, zr_zprF _ hc]⟩
  have hz3 : zsz h3 = zsz h := by rw [← hh3]; exact hz1
  have k42 : zk h3 (a + 42) = 27 ∧ zn h3 (a + 42) = 2 := by rw [← hh3]; exact ⟨by show zk h1 _ = _; rw [kk]; exact s4, by show zn h1 _ = _; rw [nn]; exact s5⟩
  have hO3 : OUT h h3 a (a + 43) := ⟨by omega, fun c c1 c2 => SM_tr (hO1.2 c c1 (by omega)) (sm3 c (by omega))⟩
  have sma := sm3 a (by omega)
  have hW1 : WS h1 (a + 1) := by rw [← hh1]; exact WS_WST G' p hw
  have hpp : ∀ k, k < 12 → zr h1 (a + 1 + 5) k = a + 1 + (29 + p k) := fun k hk => by rw [← hh1]; exact zr_WST5 h G' p hk
  have sm13 : SAME h1 h3 (a + 1) (a + 1 + 41) := fun c c1 c2 => sm3 c (by omega)
  refine hq h3 hz3 hO3 ⟨?_, ?_, ?_, k42.1, k42.2, WP_tr ⟨hW1, p, hP, hpp⟩ sm13⟩ ?_
  · rw [sma.1, kk]; exact s1
  · rw [sma.2.2.2, rr _ (by omega)]; exact s2
  · rw [sma.2.2.2, rr _ (by omega)]; exact s3
  · intro B r hR hB
    obtain ⟨⟨nr, nk, n, td, -, pv', hpv', hRv⟩, hN⟩ := hR
    refine ⟨⟨nr, nk, n, td, WR_tr ?_ sm13⟩, ?_⟩
    · have ep : ∀ k, k < 12 → pv' k = pv k := fun k hk => by
        have a1 := hpv' k hk
        have a2 := hpv k hk
        omega
      have hC2 : CPY G' p (fun j => zi h (b + 1 + j)) pv' := ⟨hC.1, hC.2.1, hC.2.2.1, fun t ht f hf => by rw [ep t ht]; exact hC.2.2.2 t ht f hf⟩
      rw [← hh1]
      exact WR_WST hw (CR_copy hC2 hP hRv)
    · intro j hj
      have ej : zr h3 (a + 42) j = zr h (b + 42) j := by
        rcases (show j = 0 ∨ j = 1 by omega) with rfl | rfl
        · exact g0
        · exact g1
      rw [ej]
      rcases hN j hj with q | ⟨q1, q2, q3, q4⟩
      · exact Or.inl q
      · exact Or.inr ⟨q1, q2, by omega, WX_tr q4 (fun c c1 c2 => hO3.2 c (by omega) (by omega))⟩
theorem SN_8 {h : zH} {B st : Nat} {r : Nat → Int32} (hS : SN h B st r) : ∀ j, j < 2 → zr h (st + 42) j = 0 ∨ zk h (zr h (st + 42) j) = 8 := by
  intro j hj
  rcases hS j hj with q | ⟨-, -, -, nr, nk, n, td, q, -⟩
  · exact Or.inl q.1
  · exact Or.inr q.1
/-- the class's objects -/
def XS (h : zH) (x : Nat) : Prop := (zk h x = 9 ∧ zr h x 0 = x + 1 ∧ zr h x 1 = x + 44 ∧ zr h x 2 = x + 304 ∧ zr h x 3 = x + 307) ∧ (zk h (x + 44) = 1 ∧ zr h (x + 44) 0 = x + 45 ∧ zk h (x + 45) = 24 ∧ zn h (x + 45) = 6 ∧ ∀ i, i < 6 → zr h (x + 45) i = x + (46 + 43 * i)) ∧
  (zk h (x + 304) = 6 ∧ zr h (x + 304) 0 = x + 305 ∧ zr h (x + 304) 1 = x + 306 ∧ zk h (x + 305) = 21 ∧ zn h (x + 305) = 140 ∧ zk h (x + 306) = 20 ∧ zn h (x + 306) = 4) ∧ SP h (x + 1) ∧ (∀ i, i < 6 → SP h (x + (46 + 43 * i))) ∧ WP h (x + 307) ∧ x + 348 ≤ zsz h
def HI (h : zH) (x o : Nat) (r sv : Nat → Int32) (s : Nat) : Prop := zi h (x + 44) 1 = nI o ∧ o < 6 ∧ zi h (x + 44) 2 = nI s ∧ s ≤ 5 ∧ SR h (x + 348) (x + 1) r ∧ ∀ i, i < s → SR h (x + 348) (x + (46 + 43 * ((o + i) % 6))) (fun k => sv (1301 * i + k))
def TX (h : zH) (x : Nat) (tx : Nat → Int32) (L : Nat) : Prop := zi h (x + 304) 2 = nI L ∧ L ≤ 140 ∧ ∀ k, k < L → zi h (x + 305) k = tx k ∧ nI 1 ≤ tx k ∧ tx k ≤ nI 255
theorem XS_of {h h' : zH} {x : Nat} (hX : XS h x) (hz : zsz h ≤ zsz h') (hs : ∀ c, c = x ∨ c = x + 44 ∨ c = x + 45 ∨ (x + 304 ≤ c ∧ c < x + 307) → zk h' c = zk h c ∧ zn h' c = zn h c ∧ zr h' c = zr h c) (h1 : SP h' (x + 1)) (h2 : ∀ i, i < 6 → SP h' (x + (46 + 43 * i))) (h3 : WP h' (x + 307)) : XS h' x := by
  obtain ⟨⟨a1, a2, a3, a4, a5⟩, ⟨b1, b2, b3, b4, b5⟩, ⟨c1, c2, c3, c4, c5, c6, c7⟩, -, -, -, hzz⟩ := hX
  obtain ⟨e1, e2, e3⟩ := hs x (by omega)
  obtain ⟨f1, f2, f3⟩ := hs (x + 44) (by omega)
  obtain ⟨g1, g2, g3⟩ := hs (x + 45) (by omega)
  obtain ⟨i1, i2, i3⟩ := hs (x + 304) (by omega)
  obtain ⟨j1, j2, j3⟩ := hs (x + 305) (by omega)
  obtain ⟨k1, k2, k3⟩ := hs (x + 306) (by omega)
  refine ⟨?_, ?_, ?_, h1, h2, h3, by omega⟩
  · rw [e1, e3]; exact ⟨a1, a2, a3, a4, a5⟩
  · rw [f1, f3, g1, g2, g3]; exact ⟨b1, b2, b3, b4, b5⟩
  · rw [i1, i3, j1, j2, k1, k2]; exact ⟨c1, c2, c3, c4, c5, c6, c7⟩

