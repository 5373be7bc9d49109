/-! The class: days pass. -/
theorem zD_in {d i u : Nat} {r : Nat → Int32} (h1 : i ≤ u) (h2 : u < i + d) : zD d r i (221 + 20 * u + 4) = nI 0 := by
  induction d generalizing r i with
  | zero => omega
  | succ d ih =>
    unfold zD
    by_cases e : i = u
    · subst e
      rw [zD_at (fun v h3 h4 => by omega), zup_eq rfl]
    · exact ih (by omega) (by omega)
theorem day_start {G : Nat → Nat → Int32} {p : Nat → Nat} {r : Nat → Int32} {nr nk n td : Nat} (hR : CR G p r nr nk n td) (htd : td < 199) : MA (zD nr r 0) n nr nk td ∧ MG G (zD nr r 0) nr nk td n (nI 0) ∧ MT G p (zD nr r 0) 0 n 0 n td := by
  obtain ⟨hI, hX, hA, ⟨hB1, hB2⟩, ⟨h3, hRd, hSt, hFr, hLd⟩, ⟨hK, hKf⟩, hTu, hP⟩ := id hR
  obtain ⟨i1, i2, i3, i0, hb, hTW, hKP⟩ := id hI
  obtain ⟨a0, a1, a2, a3, a4, a5, a6⟩ := id hA
  obtain ⟨hX1, hX2, hX3, hX4, hX5, hX6⟩ := id hX
  have hz : ∀ k, (∀ u, u < 3 → k ≠ 221 + 20 * u + 4) → zD nr r 0 k = r k := fun k h => zD_at (fun u h1 h2 => h u (by omega))
  have hz2 : ∀ k, k < 221 ∨ 281 ≤ k → zD nr r 0 k = r k := fun k h => hz k (fun u hu => by omega)
  refine ⟨⟨GI_of (fun k hk => hz2 k (by omega)) ⟨i3, i2, i0, ⟨htd, hb.2.1, hb.2.2⟩, hTW⟩, KP_of (fun k hk => hz2 _ (by omega)) hKP, (hz2 _ (by omega)).trans i1, ?_, ?_, ?_, ?_, ?_, ?_⟩, ⟨?_, ⟨?_, ?_⟩, ⟨?_, ⟨?_, ?_⟩, ?_, hFr⟩, ?_, hKf⟩, ?_, hP, by omega, by omega, by omega, hb.2.1⟩
  · intro k hk; rw [hz2 _ (by omega)]; exact hX1 k hk
  · intro k hk; rw [hz2 _ (by omega)]; exact hX2 k hk
  · intro i hi; rw [hz _ (fun u hu => by omega), kO_congr (r' := r) (fun k hk => hz2 _ (by omega))]; exact hX3 i hi
  · intro i hi s hs; rw [hz _ (fun u hu => by omega)]; exact hX4 i hi s hs
  · intro k hk; rw [hz2 _ (by omega), hz2 _ (by omega), hz2 _ (by omega)]; exact hX5 k hk
  · intro t ht; rw [hz2 _ (by omega), hz2 _ (by omega), hz2 _ (by omega)]; exact hX6 t ht
  · rw [hz2 _ (by omega), hz2 _ (by omega), hz2 _ (by omega), i32_add0]
    exact ⟨a0.trans i0, a1, a2, a3, a4.trans i1, a5.trans i2, a6.trans i3⟩
  · intro k hk; rw [hz2 _ (by omega)]; exact hB1 k hk
  · intro k hk; rw [hz2 _ (by omega)]; exact hB2 k hk
  · intro i hi f hf; rw [hz _ (fun u hu => by omega)]; exact h3 i hi f hf
  · intro i hi
    exact Or.inr ⟨hLd i (by omega), zD_in (by omega) (by omega), by rw [hz _ (fun u hu => by omega)]; exact hRd i hi⟩
  · intro i hi hi3; exact hLd i hi3
  · intro i hi s hs f hf
    rw [hz _ (fun u hu => by omega)]; exact hSt i hi s hs f hf
  · intro k hk f hf; rw [hz2 _ (by omega)]; exact hK k hk f hf
  · intro u hu
    have o : obj p 0 0 u = p u := by unfold obj; rw [if_neg (by omega)]; rfl
    rw [o]
    refine ⟨fun f hf => ?_, (hTu u hu).2, fun q => by omega⟩
    rw [hz2 _ (by omega)]; exact (hTu u hu).1 f hf
theorem eD_3 {nk d i j f : Nat} {r : Nat → Int32} (hf : f < 3) (hd : i + d ≤ 3) (hj : j < 3) : eD nk d r i (221 + 20 * j + f) = r (221 + 20 * j + f) := by
  induction d generalizing r i with
  | zero => rfl
  | succ d ih => unfold eD; rw [ih (by omega), zup_ne (by omega), eaF_at (by omega)]
theorem ea1_k {r : Nat → Int32} {i s k j u : Nat} (hi : i < 3) (hs : s < 3) (hj : j < 3) (hu : u < 3) : ea1 r i s k (221 + 20 * j + 5 + 5 * u + 1) = r (221 + 20 * j + 5 + 5 * u + 1) := by
  unfold ea1; simp (disch := omega) only [zup_ne]
theorem eD_k {nk d i j u : Nat} {r : Nat → Int32} (hd : i + d ≤ 3) (hj : j < 3) (hu : u < 3) : eD nk d r i (221 + 20 * j + 5 + 5 * u + 1) = r (221 + 20 * j + 5 + 5 * u + 1) := by
  induction d generalizing r i with
  | zero => rfl
  | succ d ih =>
    unfold eD
    rw [ih (by omega), zup_ne (by omega)]
    unfold eaF
    rw [ea1_k (by omega) (by omega) hj hu, ea1_k (by omega) (by omega) hj hu, ea1_k (by omega) (by omega) hj hu]
theorem rK_0 {d i k : Nat} {r : Nat → Int32} (hd : i + d ≤ 8) (h : k < 8) : rK d r i (281 + 7 * k + 0) = r (281 + 7 * k + 0) := by
  induction d generalizing r i with
  | zero => rfl
  | succ d ih => unfold rK; rw [ih (by omega), rkF_at (by omega)]
theorem eD_r {nk d i k : Nat} {r : Nat → Int32} (h : k < 221 ∨ 281 ≤ k) (hd : i + d ≤ 3) : eD nk d r i k = r k := eD_at h hd
theorem day_end {G G1 G2 : Nat → Nat → Int32} {p : Nat → Nat} {g : Nat → Int32} {n nr nk td : Nat} {mi : Int32} (hM : MF G p g n nr nk td mi) (hE : EG G2 (rK nk (eD nk nr (zup g 6 (g 6 + mi)) 0) 0) nr nk td n nr) (hXE : XE (rK nk (eD nk nr (zup g 6 (g 6 + mi)) 0) 0) nk td nk)
    (h1 : ∀ j, 29 ≤ j → G1 j = G j) (h2 : ∀ j, 29 ≤ j → G2 j = G1 j) :
    CR (zup G2 0 (zup (G2 0) 0 (nI (td + 1)))) p (zup (zD nr (rK nk (eD nk nr (zup g 6 (g 6 + mi)) 0) 0) 0) 0 (zD nr (rK nk (eD nk nr (zup g 6 (g 6 + mi)) 0) 0) 0 0 + nI 1)) nr nk n (td + 1) := by
  obtain ⟨⟨hGI, hKP, hr1, hX1, hX2, hX3, hX4, hX5, hX6⟩, -, hU, hP, -, -, -, hn12⟩ := hM
  have hb := hGI.2.2.2.1
  generalize hrr : rK nk (eD nk nr (zup g 6 (g 6 + mi)) 0) 0 = rr at *
  have c : ∀ k, (k ≠ 6 ∧ k < 221) ∨ 337 ≤ k ∨ (∃ u, k = 281 + 7 * u + 1) → rr k = g k := by
    intro k hk
    rw [← hrr]
    rcases hk with hk | hk | ⟨u, hk⟩
    · rw [rK_at (by omega) (by omega), eD_at (by omega) (by omega), zup_ne (by omega)]
    · rw [rK_at (by omega) (by omega), eD_at (by omega) (by omega), zup_ne (by omega)]
    · rw [rK_at (Or.inr (Or.inr ⟨u, hk⟩)) (by omega), eD_at (by omega) (by omega), zup_ne (by omega)]
  have c3 : ∀ i, i < nr → ∀ f, f < 3 → rr (221 + 20 * i + f) = g (221 + 20 * i + f) := by
    intro i hi f hf
    rw [← hrr, rK_at (by omega) (by omega), eD_3 hf (by omega) (by omega), zup_ne (by omega)]
  have ck : ∀ i, i < nr → ∀ s, s < 3 → rr (221 + 20 * i + 5 + 5 * s + 1) = g (221 + 20 * i + 5 + 5 * s + 1) := by
    intro i hi s hs
    rw [← hrr, rK_at (by omega) (by omega), eD_k (by omega) (by omega) hs, zup_ne (by omega)]
  obtain ⟨⟨c0, c1, c2, c3', c4, c5, c6⟩, ⟨hB1, hB2⟩, ⟨h3, hD, hSt, hFr⟩, hK, hKf⟩ := hE
  have hz : ∀ k, k ≠ 0 → (∀ u, u < 3 → k ≠ 221 + 20 * u + 4) → zup (zD nr rr 0) 0 (zD nr rr 0 0 + nI 1) k = rr k := fun k h0 h => by rw [zup_ne h0, zD_at (fun u q1 q2 => h u (by omega))]
  have hz2 : ∀ k, k ≠ 0 → k < 221 ∨ 281 ≤ k → zup (zD nr rr 0) 0 (zD nr rr 0 0 + nI 1) k = rr k := fun k h0 h => hz k h0 (fun u hu => by omega)
  have e0 : zup (zD nr rr 0) 0 (zD nr rr 0 0 + nI 1) 0 = nI (td + 1) := by
    rw [zup_eq rfl, zD_at (fun u q1 q2 => by omega), c 0 (by omega), hGI.2.2.1, nI_add]
  generalize hr' : zup (zD nr rr 0) 0 (zD nr rr 0 0 + nI 1) = r' at *
  have ho : ∀ u, u < n → obj p n n u = p u := fun u hu => by unfold obj; rw [if_pos hu]
  refine ⟨⟨?_, ?_, ?_, e0, ⟨by omega, hb.2.1, hb.2.2⟩, ?_, ?_⟩, ⟨?_, ?_, ?_, ?_, ?_, ?_⟩, ?_, ⟨?_, ?_⟩, ⟨?_, ?_, ?_, ?_, ?_⟩, ⟨?_, ?_⟩, ?_, hP⟩
  · rw [hz2 _ (by omega) (by omega), c _ (by omega)]; exact hr1
  · rw [hz2 _ (by omega) (by omega), c _ (by omega)]; exact hGI.2.1
  · rw [hz2 _ (by omega) (by omega), c _ (by omega)]; exact hGI.1
  · exact fun u hu => TWc (fun f hf => by rw [hz2 _ (by omega) (by omega), c _ (by omega)]) (hGI.2.2.2.2 u hu)
  · exact KP_of (fun k hk => by rw [hz2 _ (by omega) (by omega), c _ (Or.inr (Or.inr ⟨k, rfl⟩))]) hKP
  · intro k hk; rw [hz2 _ (by omega) (by omega), c _ (by omega)]; exact hX1 k hk
  · intro k hk; rw [hz2 _ (by omega) (by omega), c _ (by omega)]; exact hX2 k hk
  · intro i hi
    rw [hz _ (by omega) (fun u hu => by omega), c3 i hi 2 (by omega), kO_congr (r' := g) (fun k hk => by rw [hz2 _ (by omega) (by omega), c _ (Or.inr (Or.inr ⟨k, rfl⟩))])]; exact hX3 i hi
  · intro i hi s hs; rw [hz _ (by omega) (fun u hu => by omega), ck i hi s hs]; exact hX4 i hi s hs
  · intro k hk
    rw [hz2 _ (by omega) (by omega), hz2 _ (by omega) (by omega), hz2 _ (by omega) (by omega)]
    have := hXE k hk
    rw [if_pos hk] at this
    exact this
  · intro t ht
    rw [hz2 _ (by omega) (by omega), hz2 _ (by omega) (by omega), hz2 _ (by omega) (by omega), c _ (by omega), c _ (by omega), c _ (by omega)]
    obtain ⟨d, d1, d2, d3⟩ := (hU t ht).2.2 ht
    exact ⟨⟨d, by omega, d2, d3⟩, (hX6 t ht).2⟩
  · unfold CA
    simp (disch := omega) only [zup_eq, zup_ne]
    rw [e0, hz2 _ (by omega) (by omega), hz2 _ (by omega) (by omega), hz2 _ (by omega) (by omega), hz2 _ (by omega) (by omega), hz2 _ (by omega) (by omega), hz2 _ (by omega) (by omega)]
    refine ⟨rfl, c1, c2, c3', ?_, ?_, ?_⟩
    · rw [c 1 (by omega), hr1]; exact c4
    · rw [c 2 (by omega), hGI.2.1]; exact c5
    · rw [c 3 (by omega), hGI.1]; exact c6
  · intro k hk; rw [zup_ne (by omega), hz2 _ (by omega) (by omega)]; exact hB1 k hk
  · intro k hk; rw [zup_ne (by omega), hz2 _ (by omega) (by omega)]; exact hB2 k hk
  · intro i hi f hf; rw [zup_ne (by omega), hz _ (by omega) (fun u hu => by omega)]; exact h3 i hi f hf
  · intro i hi; rw [zup_ne (by omega), hz _ (by omega) (fun u hu => by omega)]; exact (hD.1 i hi).2.1 hi
  · intro i hi s hs f hf; rw [zup_ne (by omega), hz _ (by omega) (fun u hu => by omega)]; exact hSt i hi s hs f hf
  · intro i hi hi3
    exact ⟨by rw [zup_ne (by omega)]; exact (hFr i hi hi3).1, fun s hs f hf => by rw [zup_ne (by omega)]; exact (hFr i hi hi3).2 s hs f hf⟩
  · intro i hi
    rw [zup_ne (by omega)]
    have key : LDo (G2 (6 + 5 * i) 4) td → G2 (6 + 5 * i) 4 = -9 ∨ ∃ d, d < td + 1 ∧ G2 (6 + 5 * i) 4 = nI d := fun q => q.imp id (fun ⟨d, d1, d2⟩ => ⟨d, by omega, d2⟩)
    by_cases e : i < nr
    · rcases (hD.1 i e).1 with ⟨d1, -⟩ | ⟨d1, -⟩
      · exact Or.inr ⟨td, by omega, d1⟩
      · exact key d1
    · exact key (hD.2 i (by omega) hi)
  · intro k hk f hf; rw [zup_ne (by omega), hz2 _ (by omega) (by omega)]; exact hK k hk f hf
  · intro k hk hk8
    exact ⟨by rw [zup_ne (by omega)]; exact (hKf k hk hk8).1, fun f hf hf7 => by rw [zup_ne (by omega)]; exact (hKf k hk hk8).2 f hf hf7⟩
  · intro t ht
    have hpt := hP.1 t (by omega)
    obtain ⟨q1, q2, -⟩ := hU t ht
    rw [ho t ht] at q1 q2
    refine ⟨fun f hf => ?_, ?_⟩
    · rw [zup_ne (by omega), h2 _ (by omega), h1 _ (by omega), hz2 _ (by omega) (by omega), c _ (by omega)]; exact q1 f hf
    · rw [zup_ne (by omega), h2 _ (by omega), h1 _ (by omega)]; exact q2
theorem gT_6 {nk nr td : Nat} (d : Nat) : ∀ (r : Nat → Int32) (t n : Nat) (mi tg : Int32), t + d = n → GI r n nr nk td → (gT nk d r t n mi tg).1 6 = r 6 := by
  induction d with
  | zero => intro r t n mi tg _ hG; rfl
  | succ d ih =>
    intro r t n mi tg ht hG
    have hb := hG.2.2.2.1
    have hT := hG.2.2.2.2 t (by omega)
    have h0 := hG.2.2.1
    have i1 := ixx_lt hT.1 (by omega)
    unfold gT
    split
    · exact ih _ _ _ _ _ (by omega) hG
    · split
      · rw [h0, nI_add, ih _ _ _ _ _ (by omega) (GI_up (GI_day hG (by omega)) (by omega)), zup_ne (by omega), zup_ne (by omega)]
      · split
        · have e := fun k hk => dT_at (k := k) hb.2.2.1 hb.2.2.2 hT hk
          rw [ih _ t (n - 1) _ _ (by omega) (GI_rm (GI_up (GI_dT hG (by omega)) (by omega)) (by omega)), rmT_at (by omega) (by omega), zup_ne (by omega), e _ (by omega)]
        · rw [ih _ t (n - 1) _ _ (by omega) (GI_rm (GI_up hG (by omega)) (by omega)), rmT_at (by omega) (by omega), zup_ne (by omega)]
theorem pD_6 {r : Nat → Int32} {nr nk n td : Nat} (hI : RI r nr nk n td) (htd : td < 199) : (pD r nr nk n).1 6 = r 6 + (pD r nr nk n).2.1 := by
  obtain ⟨i1, i2, i3, i0, hb, hT, hK⟩ := hI
  have hG : GI r n nr nk td := ⟨i3, i2, i0, ⟨htd, hb.2.1, hb.2.2⟩, hT⟩
  have h6 := gT_6 (nk := nk) (nr := nr) (td := td) n (zD nr r 0) 0 n (nI 0) (nI 0) (by omega) (GI_of (fun k hk => zD_at (by omega)) hG)
  unfold pD
  simp only
  rw [zup_ne (by omega), zD_at (by omega), rK_at (by omega) (by omega), eD_at (by omega) (by omega), zup_eq rfl, h6, zD_at (by omega)]
theorem l_passC {E : zE} {Q : Int32 → zH → Prop} {w nr nk D : Nat} {mb : Int32} {h : zH} {k' n' : Nat} (hw : WS h w) (hD : D ≤ 60) (d : Nat) : ∀ (G : Nat → Nat → Int32) (p : Nat → Nat) (r : Nat → Int32) (i n td : Nat) (mi : Int32), i + d = D → td + d ≤ 199 → CR G p r nr nk n td → r 6 = mb + mi →
    (∀ G' p' n', CR G' p' (pN nr nk d r mi).1 nr nk n' (td + d) → Q (pN nr nk d r mi).2 (WST h w G' p')) → zJ E mX7_passDays (zQi Q) 34 [some (.inr w), some (.inl (nI D)), some (.inl mb), some (.inl (nI i))] [] (WST h w G p) k' n' := by
  obtain ⟨wk, ⟨wr7, wr8, wr9, wr10, wr11⟩, ⟨wk1, wk2, wk3, wk4, wk5⟩, ⟨wn1, wn2, wn3, wn4, wn5⟩, ⟨wRr, wRk, wR5, wRs, wRn⟩, ⟨wSr, wSk⟩, ⟨wKr, wKk⟩, wTk⟩ := id hw
  induction d with
  | zero =>
    intro G p r i n td mi hi htd hR h6 hq
    obtain rfl : i = D := by omega
    have a3 := hR.2.2.1.2.2.2.1
    (refine jX7_passDays 200 ?_; simp (disch := omega) only [↓wX7_passDays_0, ↓wX7_passDays_1, ↓wX7_passDays_2, ↓wX7_passDays_4, ↓wX7_passDays_7, ↓wX7_passDays_10, ↓wX7_passDays_11, ↓wX7_passDays_12, ↓wX7_passDays_13, ↓wX7_passDays_16, ↓wX7_passDays_17, ↓wX7_passDays_18, ↓wX7_passDays_21, ↓wX7_passDays_24, ↓wX7_passDays_26, ↓wX7_passDays_27, ↓wX7_passDays_28, ↓wX7_passDays_31, ↓wX7_passDays_32, ↓wX7_passDays_33, ↓wX7_passDays_34, ↓wX7_passDays_35, ↓wX7_passDays_36, ↓wX7_passDays_39, ↓wX7_passDays_40, ↓wX7_passDays_43, ↓wX7_passDays_44, ↓wX7_passDays_47, ↓wX7_passDays_48, ↓wX7_passDays_51, ↓wX7_passDays_52, ↓wX7_passDays_53, ↓wX7_passDays_56, ↓wX7_passDays_57, ↓wX7_passDays_58, ↓wX7_passDays_61, ↓wX7_passDays_64, ↓wX7_passDays_67, ↓wX7_passDays_68, ↓wX7_passDays_71, ↓wX7_passDays_72, ↓wX7_passDays_73, zQi_def, zQa_def, zQv_def, nI00, nI10, nI11, nI01, true_or, or_true, false_or, or_false, eq_self, true_implies, false_implies, not_true_eq_false, not_false_eq_true, zc9, zc1, zc2, zc3, zc1000, nI_m9, nI_add, pk_mul, ix_nI, vpT, zk_zpi, zn_zpi, zr_zpi, zk_zpa, zn_zpa, zr_zpa, zsz_zpi, zsz_zpa, zi_zpa, zpi_pa, zpa_zpa, true_and, and_true, and_self, zk_WST, zn_WST, zsz_WST, zi_WST, zi_WST0, zr_WST5, zr_WSTN, zpa_WST, zpa_WST0, zpr_WST5, zup2_eq, zup2_ne, zup_eq, zup_ne, q22, q23, q24, q25, q26, q27, zAk26, wk, wr7, wr8, wr9, wr10, wr11, wk1, wk2, wk3, wk4, wk5, wn1, wn2, wn3, wn4, wn5, wRr, wRk, wR5, wRs, wRn, wSr, wSk, wKr, wKk, wTk, nI_leI, Nat.le_refl, a3, h6])
    rw [Int32.add_comm, Int32.add_sub_cancel]
    exact hq G p n hR
  | succ d ih =>
    intro G p r i n td mi hi htd hR h6 hq
    have hle : ¬ D ≤ i := by omega
    obtain ⟨s1, s2, s3⟩ := day_start hR (by omega)
    have hI := hR.1
    have hb := hI.2.2.2.2.1
    have hn3 := hI.2.2.1
    have g6 : G 0 6 = nI n := hR.2.2.1.2.2.2.2.2.2.trans hn3
    simp (disch := omega) only [pN, hn3, ixx_nI] at hq
    have hp6 := pD_6 hI (by omega)
    (refine jX7_passDays 200 ?_; simp (disch := omega) only [↓wX7_passDays_0, ↓wX7_passDays_1, ↓wX7_passDays_2, ↓wX7_passDays_4, ↓wX7_passDays_7, ↓wX7_passDays_10, ↓wX7_passDays_11, ↓wX7_passDays_12, ↓wX7_passDays_13, ↓wX7_passDays_16, ↓wX7_passDays_17, ↓wX7_passDays_18, ↓wX7_passDays_21, ↓wX7_passDays_24, ↓wX7_passDays_26, ↓wX7_passDays_27, ↓wX7_passDays_28, ↓wX7_passDays_31, ↓wX7_passDays_32, ↓wX7_passDays_33, ↓wX7_passDays_34, ↓wX7_passDays_35, ↓wX7_passDays_36, ↓wX7_passDays_39, ↓wX7_passDays_40, ↓wX7_passDays_43, ↓wX7_passDays_44, ↓wX7_passDays_47, ↓wX7_passDays_48, ↓wX7_passDays_51, ↓wX7_passDays_52, ↓wX7_passDays_53, ↓wX7_passDays_56, ↓wX7_passDays_57, ↓wX7_passDays_58, ↓wX7_passDays_61, ↓wX7_passDays_64, ↓wX7_passDays_67, ↓wX7_passDays_68, ↓wX7_passDays_71, ↓wX7_passDays_72, ↓wX7_passDays_73, zQi_def, zQa_def, zQv_def, nI00, nI10, nI11, nI01, true_or, or_true, false_or, or_false, eq_self, true_implies, false_implies, not_true_eq_false, not_false_eq_true, zc9, zc1, zc2, zc3, zc1000, nI_m9, nI_add, pk_mul, ix_nI, vpT, zk_zpi, zn_zpi, zr_zpi, zk_zpa, zn_zpa, zr_zpa, zsz_zpi, zsz_zpa, zi_zpa, zpi_pa, zpa_zpa, true_and, and_true, and_self, zk_WST, zn_WST, zsz_WST, zi_WST, zi_WST0, zr_WST5, zr_WSTN, zpa_WST, zpa_WST0, zpr_WST5, zup2_eq, zup2_ne, zup_eq, zup_ne, q22, q23, q24, q25, q26, q27, zAk26, wk, wr7, wr8, wr9, wr10, wr11, wk1, wk2, wk3, wk4, wk5, wn1, wn2, wn3, wn4, wn5, wRr, wRk, wR5, wRs, wRn, wSr, wSk, wKr, wKk, wTk, nI_leI, hle])
    refine v_goThrough (nI 0) hw s1 s2 s3 ?_
    intro G1 p1 n1 hM _
    try simp (disch := omega) only [↓wX7_passDays_0, ↓wX7_passDays_1, ↓wX7_passDays_2, ↓wX7_passDays_4, ↓wX7_passDays_7, ↓wX7_passDays_10, ↓wX7_passDays_11, ↓wX7_passDays_12, ↓wX7_passDays_13, ↓wX7_passDays_16, ↓wX7_passDays_17, ↓wX7_passDays_18, ↓wX7_passDays_21, ↓wX7_passDays_24, ↓wX7_passDays_26, ↓wX7_passDays_27, ↓wX7_passDays_28, ↓wX7_passDays_31, ↓wX7_passDays_32, ↓wX7_passDays_33, ↓wX7_passDays_34, ↓wX7_passDays_35, ↓wX7_passDays_36, ↓wX7_passDays_39, ↓wX7_passDays_40, ↓wX7_passDays_43, ↓wX7_passDays_44, ↓wX7_passDays_47, ↓wX7_passDays_48, ↓wX7_passDays_51, ↓wX7_passDays_52, ↓wX7_passDays_53, ↓wX7_passDays_56, ↓wX7_passDays_57, ↓wX7_passDays_58, ↓wX7_passDays_61, ↓wX7_passDays_64, ↓wX7_passDays_67, ↓wX7_passDays_68, ↓wX7_passDays_71, ↓wX7_passDays_72, ↓wX7_passDays_73, zQi_def, zQa_def, zQv_def, nI00, nI10, nI11, nI01, true_or, or_true, false_or, or_false, eq_self, true_implies, false_implies, not_true_eq_false, not_false_eq_true, zc9, zc1, zc2, zc3, zc1000, nI_m9, nI_add, pk_mul, ix_nI, vpT, zk_zpi, zn_zpi, zr_zpi, zk_zpa, zn_zpa, zr_zpa, zsz_zpi, zsz_zpa, zi_zpa, zpi_pa, zpa_zpa, true_and, and_true, and_self, zk_WST, zn_WST, zsz_WST, zi_WST, zi_WST0, zr_WST5, zr_WSTN, zpa_WST, zpa_WST0, zpr_WST5, zup2_eq, zup2_ne, zup_eq, zup_ne, q22, q23, q24, q25, q26, q27, zAk26, wk, wr7, wr8, wr9, wr10, wr11, wk1, wk2, wk3, wk4, wk5, wn1, wn2, wn3, wn4, wn5, wRr, wRk, wR5, wRs, wRn, wSr, wSk, wKr, wKk, wTk]
    refine v_eat hw hb.2.2.1 hb.2.2.2 (EG_of hM.2.1 hb.2.2.1 hb.2.2.2) ?_
    intro G2 hE2 k2
    try simp (disch := omega) only [↓wX7_passDays_0, ↓wX7_passDays_1, ↓wX7_passDays_2, ↓wX7_passDays_4, ↓wX7_passDays_7, ↓wX7_passDays_10, ↓wX7_passDays_11, ↓wX7_passDays_12, ↓wX7_passDays_13, ↓wX7_passDays_16, ↓wX7_passDays_17, ↓wX7_passDays_18, ↓wX7_passDays_21, ↓wX7_passDays_24, ↓wX7_passDays_26, ↓wX7_passDays_27, ↓wX7_passDays_28, ↓wX7_passDays_31, ↓wX7_passDays_32, ↓wX7_passDays_33, ↓wX7_passDays_34, ↓wX7_passDays_35, ↓wX7_passDays_36, ↓wX7_passDays_39, ↓wX7_passDays_40, ↓wX7_passDays_43, ↓wX7_passDays_44, ↓wX7_passDays_47, ↓wX7_passDays_48, ↓wX7_passDays_51, ↓wX7_passDays_52, ↓wX7_passDays_53, ↓wX7_passDays_56, ↓wX7_passDays_57, ↓wX7_passDays_58, ↓wX7_passDays_61, ↓wX7_passDays_64, ↓wX7_passDays_67, ↓wX7_passDays_68, ↓wX7_passDays_71, ↓wX7_passDays_72, ↓wX7_passDays_73, zQi_def, zQa_def, zQv_def, nI00, nI10, nI11, nI01, true_or, or_true, false_or, or_false, eq_self, true_implies, false_implies, not_true_eq_false, not_false_eq_true, zc9, zc1, zc2, zc3, zc1000, nI_m9, nI_add, pk_mul, ix_nI, vpT, zk_zpi, zn_zpi, zr_zpi, zk_zpa, zn_zpa, zr_zpa, zsz_zpi, zsz_zpa, zi_zpa, zpi_pa, zpa_zpa, true_and, and_true, and_self, zk_WST, zn_WST, zsz_WST, zi_WST, zi_WST0, zr_WST5, zr_WSTN, zpa_WST, zpa_WST0, zpr_WST5, zup2_eq, zup2_ne, zup_eq, zup_ne, q22, q23, q24, q25, q26, q27, zAk26, wk, wr7, wr8, wr9, wr10, wr11, wk1, wk2, wk3, wk4, wk5, wn1, wn2, wn3, wn4, wn5, wRr, wRk, wR5, wRs, wRn, wSr, wSk, wKr, wKk, wTk]
    refine v_earn hw hb.2.2.1 hb.2.2.2 (by omega) hE2 ?_ ?_ ?_
    · exact KP_of (fun k hk => by rw [eD_at (by omega) (by omega), zup_ne (by omega)]) hM.1.2.1
    · intro k hk
      rw [eD_at (by omega) (by omega), eD_at (by omega) (by omega), eD_at (by omega) (by omega), zup_ne (by omega), zup_ne (by omega), zup_ne (by omega), if_neg (by omega)]
      exact hM.1.2.2.2.2.2.2.2.1 k hk
    intro G3 hE3 hX3 k3
    have c0 := hE3.1.1
    try simp (disch := omega) only [↓wX7_passDays_0, ↓wX7_passDays_1, ↓wX7_passDays_2, ↓wX7_passDays_4, ↓wX7_passDays_7, ↓wX7_passDays_10, ↓wX7_passDays_11, ↓wX7_passDays_12, ↓wX7_passDays_13, ↓wX7_passDays_16, ↓wX7_passDays_17, ↓wX7_passDays_18, ↓wX7_passDays_21, ↓wX7_passDays_24, ↓wX7_passDays_26, ↓wX7_passDays_27, ↓wX7_passDays_28, ↓wX7_passDays_31, ↓wX7_passDays_32, ↓wX7_passDays_33, ↓wX7_passDays_34, ↓wX7_passDays_35, ↓wX7_passDays_36, ↓wX7_passDays_39, ↓wX7_passDays_40, ↓wX7_passDays_43, ↓wX7_passDays_44, ↓wX7_passDays_47, ↓wX7_passDays_48, ↓wX7_passDays_51, ↓wX7_passDays_52, ↓wX7_passDays_53, ↓wX7_passDays_56, ↓wX7_passDays_57, ↓wX7_passDays_58, ↓wX7_passDays_61, ↓wX7_passDays_64, ↓wX7_passDays_67, ↓wX7_passDays_68, ↓wX7_passDays_71, ↓wX7_passDays_72, ↓wX7_passDays_73, zQi_def, zQa_def, zQv_def, nI00, nI10, nI11, nI01, true_or, or_true, false_or, or_false, eq_self, true_implies, false_implies, not_true_eq_false, not_false_eq_true, zc9, zc1, zc2, zc3, zc1000, nI_m9, nI_add, pk_mul, ix_nI, vpT, zk_zpi, zn_zpi, zr_zpi, zk_zpa, zn_zpa, zr_zpa, zsz_zpi, zsz_zpa, zi_zpa, zpi_pa, zpa_zpa, true_and, and_true, and_self, zk_WST, zn_WST, zsz_WST, zi_WST, zi_WST0, zr_WST5, zr_WSTN, zpa_WST, zpa_WST0, zpr_WST5, zup2_eq, zup2_ne, zup_eq, zup_ne, q22, q23, q24, q25, q26, q27, zAk26, wk, wr7, wr8, wr9, wr10, wr11, wk1, wk2, wk3, wk4, wk5, wn1, wn2, wn3, wn4, wn5, wRr, wRk, wR5, wRs, wRn, wSr, wSk, wKr, wKk, wTk, c0]
    refine ih _ p1 (pD r nr nk n).1 (i + 1) n1 (td + 1) (mi + (pD r nr nk n).2.1) (by omega) (by omega) (day_end hM hE3 hX3 k2 k3) (by rw [hp6, h6, Int32.add_assoc]) ?_
    rw [show td + 1 + d = td + (d + 1) by omega]
    exact hq
theorem v_passDaysN {E : zE} {Q : Int32 → zH → Prop} {w nr nk n td D : Nat} {h : zH} {G : Nat → Nat → Int32} {p : Nat → Nat} {r : Nat → Int32} (hw : WS h w) (hR : CR G p r nr nk n td) (hD1 : 1 ≤ D) (hD : D ≤ 60) (htd : td + D ≤ 199)
    (hq : ∀ G' p' n', CR G' p' (pN nr nk D r (nI 0)).1 nr nk n' (td + D) → Q (pN nr nk D r (nI 0)).2 (WST h w G' p')) : zMi E mX7_passDays [.inr w, .inl (nI D)] (WST h w G p) Q := by
  obtain ⟨wk, ⟨wr7, wr8, wr9, wr10, wr11⟩, ⟨wk1, wk2, wk3, wk4, wk5⟩, ⟨wn1, wn2, wn3, wn4, wn5⟩, ⟨wRr, wRk, wR5, wRs, wRn⟩, ⟨wSr, wSk⟩, ⟨wKr, wKk⟩, wTk⟩ := id hw
  obtain ⟨hI, hX, hA, ⟨hB1, hB2⟩, ⟨h3, hRd, hSt, hFr, hLd⟩, ⟨hK, hKf⟩, hTu, hP⟩ := id hR
  obtain ⟨i1, i2, i3, i0, hb, hTW, hKP⟩ := id hI
  obtain ⟨a0, a1, a2, a3, a4, a5, a6⟩ := id hA
  have g0 : G 0 0 = nI td := a0.trans i0
  have hle : td + D ≤ 199 := htd
  have hin : nI 1 ≤ nI D ∧ nI D ≤ nI 60 := ⟨(nI_leI (by omega) (by omega)).mpr hD1, (nI_leI (by omega) (by omega)).mpr hD⟩
  (refine eX7_passDays 200 ?_; simp (disch := omega) only [↓wX7_passDays_0, ↓wX7_passDays_1, ↓wX7_passDays_2, ↓wX7_passDays_4, ↓wX7_passDays_7, ↓wX7_passDays_10, ↓wX7_passDays_11, ↓wX7_passDays_12, ↓wX7_passDays_13, ↓wX7_passDays_16, ↓wX7_passDays_17, ↓wX7_passDays_18, ↓wX7_passDays_21, ↓wX7_passDays_24, ↓wX7_passDays_26, ↓wX7_passDays_27, ↓wX7_passDays_28, ↓wX7_passDays_31, ↓wX7_passDays_32, ↓wX7_passDays_33, ↓wX7_passDays_34, ↓wX7_passDays_35, ↓wX7_passDays_36, ↓wX7_passDays_39, ↓wX7_passDays_40, ↓wX7_passDays_43, ↓wX7_passDays_44, ↓wX7_passDays_47, ↓wX7_passDays_48, ↓wX7_passDays_51, ↓wX7_passDays_52, ↓wX7_passDays_53, ↓wX7_passDays_56, ↓wX7_passDays_57, ↓wX7_passDays_58, ↓wX7_passDays_61, ↓wX7_passDays_64, ↓wX7_passDays_67, ↓wX7_passDays_68, ↓wX7_passDays_71, ↓wX7_passDays_72, ↓wX7_passDays_73, zQi_def, zQa_def, zQv_def, nI00, nI10, nI11, nI01, true_or, or_true, false_or, or_false, eq_self, true_implies, false_implies, not_true_eq_false, not_false_eq_true, zc9, zc1, zc2, zc3, zc1000, nI_m9, nI_add, pk_mul, ix_nI, vpT, zk_zpi, zn_zpi, zr_zpi, zk_zpa, zn_zpa, zr_zpa, zsz_zpi, zsz_zpa, zi_zpa, zpi_pa, zpa_zpa, true_and, and_true, and_self])
  refine v_within ?_
  rw [zb_t hin]
  simp (disch := omega) only [↓wX7_passDays_0, ↓wX7_passDays_1, ↓wX7_passDays_2, ↓wX7_passDays_4, ↓wX7_passDays_7, ↓wX7_passDays_10, ↓wX7_passDays_11, ↓wX7_passDays_12, ↓wX7_passDays_13, ↓wX7_passDays_16, ↓wX7_passDays_17, ↓wX7_passDays_18, ↓wX7_passDays_21, ↓wX7_passDays_24, ↓wX7_passDays_26, ↓wX7_passDays_27, ↓wX7_passDays_28, ↓wX7_passDays_31, ↓wX7_passDays_32, ↓wX7_passDays_33, ↓wX7_passDays_34, ↓wX7_passDays_35, ↓wX7_passDays_36, ↓wX7_passDays_39, ↓wX7_passDays_40, ↓wX7_passDays_43, ↓wX7_passDays_44, ↓wX7_passDays_47, ↓wX7_passDays_48, ↓wX7_passDays_51, ↓wX7_passDays_52, ↓wX7_passDays_53, ↓wX7_passDays_56, ↓wX7_passDays_57, ↓wX7_passDays_58, ↓wX7_passDays_61, ↓wX7_passDays_64, ↓wX7_passDays_67, ↓wX7_passDays_68, ↓wX7_passDays_71, ↓wX7_passDays_72, ↓wX7_passDays_73, zQi_def, zQa_def, zQv_def, nI00, nI10, nI11, nI01, true_or, or_true, false_or, or_false, eq_self, true_implies, false_implies, not_true_eq_false, not_false_eq_true, zc9, zc1, zc2, zc3, zc1000, nI_m9, nI_add, pk_mul, ix_nI, vpT, zk_zpi, zn_zpi, zr_zpi, zk_zpa, zn_zpa, zr_zpa, zsz_zpi, zsz_zpa, zi_zpa, zpi_pa, zpa_zpa, true_and, and_true, and_self, zk_WST, zn_WST, zsz_WST, zi_WST, zi_WST0, zr_WST5, zr_WSTN, zpa_WST, zpa_WST0, zpr_WST5, zup2_eq, zup2_ne, zup_eq, zup_ne, q22, q23, q24, q25, q26, q27, zAk26, wk, wr7, wr8, wr9, wr10, wr11, wk1, wk2, wk3, wk4, wk5, wn1, wn2, wn3, wn4, wn5, wRr, wRk, wR5, wRs, wRn, wSr, wSk, wKr, wKk, wTk, g0, nI_leI, ltle, hle]
  refine l_passC hw hD D G p r 0 n td _ (by omega) htd hR ?_ hq
  rw [← a3, i32_add0]
theorem v_passDays {E : zE} {Q : Int32 → zH → Prop} {w nr nk n td : Nat} {x : Int32} {h : zH} {G : Nat → Nat → Int32} {p : Nat → Nat} {r : Nat → Int32} (hw : WS h w) (hR : CR G p r nr nk n td) (hq : ACT Q h w G p (oPass r nr nk td x)) : zMi E mX7_passDays [.inr w, .inl x] (WST h w G p) Q := by
  obtain ⟨wk, ⟨wr7, wr8, wr9, wr10, wr11⟩, ⟨wk1, wk2, wk3, wk4, wk5⟩, ⟨wn1, wn2, wn3, wn4, wn5⟩, ⟨wRr, wRk, wR5, wRs, wRn⟩, ⟨wSr, wSk⟩, ⟨wKr, wKk⟩, wTk⟩ := id hw
  obtain ⟨hI, hX, hA, ⟨hB1, hB2⟩, ⟨h3, hRd, hSt, hFr, hLd⟩, ⟨hK, hKf⟩, hTu, hP⟩ := id hR
  obtain ⟨i1, i2, i3, i0, hb, hTW, hKP⟩ := id hI
  obtain ⟨a0, a1, a2, a3, a4, a5, a6⟩ := id hA
  have g0 : G 0 0 = nI td := a0.trans i0
  unfold oPass at hq
  by_cases hc : 0 ≤ psC td x
  · obtain ⟨j, hj1, hj2, rfl, htd⟩ := psC_d (by omega) hc
    rw [if_pos hc, ixx_nI (by omega)] at hq
    refine v_passDaysN hw hR hj1 hj2 htd ?_
    intro G' p' n' hR'
    obtain ⟨c, hc1, hc2⟩ := pN_mi (nr := nr) (nk := nk) j r n td 0 hI htd
    exact ACT_s hq (by rw [hc2]; exact nI_nn (by omega)) hR'
  · rw [if_neg hc] at hq
    unfold psC at hq hc
    by_cases hin : nI 1 ≤ x ∧ x ≤ nI 60
    · rw [if_pos hin] at hq hc
      by_cases hl : nI 199 < nI td + x
      · rw [if_pos hl] at hq
        have hl' := hl
        rw [ltle] at hl'
        (refine eX7_passDays 200 ?_; simp (disch := omega) only [↓wX7_passDays_0, ↓wX7_passDays_1, ↓wX7_passDays_2, ↓wX7_passDays_4, ↓wX7_passDays_7, ↓wX7_passDays_10, ↓wX7_passDays_11, ↓wX7_passDays_12, ↓wX7_passDays_13, ↓wX7_passDays_16, ↓wX7_passDays_17, ↓wX7_passDays_18, ↓wX7_passDays_21, ↓wX7_passDays_24, ↓wX7_passDays_26, ↓wX7_passDays_27, ↓wX7_passDays_28, ↓wX7_passDays_31, ↓wX7_passDays_32, ↓wX7_passDays_33, ↓wX7_passDays_34, ↓wX7_passDays_35, ↓wX7_passDays_36, ↓wX7_passDays_39, ↓wX7_passDays_40, ↓wX7_passDays_43, ↓wX7_passDays_44, ↓wX7_passDays_47, ↓wX7_passDays_48, ↓wX7_passDays_51, ↓wX7_passDays_52, ↓wX7_passDays_53, ↓wX7_passDays_56, ↓wX7_passDays_57, ↓wX7_passDays_58, ↓wX7_passDays_61, ↓wX7_passDays_64, ↓wX7_passDays_67, ↓wX7_passDays_68, ↓wX7_passDays_71, ↓wX7_passDays_72, ↓wX7_passDays_73, zQi_def, zQa_def, zQv_def, nI00, nI10, nI11, nI01, true_or, or_true, false_or, or_false, eq_self, true_implies, false_implies, not_true_eq_false, not_false_eq_true, zc9, zc1, zc2, zc3, zc1000, nI_m9, nI_add, pk_mul, ix_nI, vpT, zk_zpi, zn_zpi, zr_zpi, zk_zpa, zn_zpa, zr_zpa, zsz_zpi, zsz_zpa, zi_zpa, zpi_pa, zpa_zpa, true_and, and_true, and_self, zk_WST, zn_WST, zsz_WST, zi_WST, zi_WST0, zr_WST5, zr_WSTN, zpa_WST, zpa_WST0, zpr_WST5, zup2_eq, zup2_ne, zup_eq, zup_ne, q22, q23, q24, q25, q26, q27, zAk26, wk, wr7, wr8, wr9, wr10, wr11, wk1, wk2, wk3, wk4, wk5, wn1, wn2, wn3, wn4, wn5, wRr, wRk, wR5, wRs, wRn, wSr, wSk, wKr, wKk, wTk, g0])
        refine v_within ?_
        rw [zb_t hin]
        simp (disch := omega) only [↓wX7_passDays_0, ↓wX7_passDays_1, ↓wX7_passDays_2, ↓wX7_passDays_4, ↓wX7_passDays_7, ↓wX7_passDays_10, ↓wX7_passDays_11, ↓wX7_passDays_12, ↓wX7_passDays_13, ↓wX7_passDays_16, ↓wX7_passDays_17, ↓wX7_passDays_18, ↓wX7_passDays_21, ↓wX7_passDays_24, ↓wX7_passDays_26, ↓wX7_passDays_27, ↓wX7_passDays_28, ↓wX7_passDays_31, ↓wX7_passDays_32, ↓wX7_passDays_33, ↓wX7_passDays_34, ↓wX7_passDays_35, ↓wX7_passDays_36, ↓wX7_passDays_39, ↓wX7_passDays_40, ↓wX7_passDays_43, ↓wX7_passDays_44, ↓wX7_passDays_47, ↓wX7_passDays_48, ↓wX7_passDays_51, ↓wX7_passDays_52, ↓wX7_passDays_53, ↓wX7_passDays_56, ↓wX7_passDays_57, ↓wX7_passDays_58, ↓wX7_passDays_61, ↓wX7_passDays_64, ↓wX7_passDays_67, ↓wX7_passDays_68, ↓wX7_passDays_71, ↓wX7_passDays_72, ↓wX7_passDays_73, zQi_def, zQa_def, zQv_def, nI00, nI10, nI11, nI01, true_or, or_true, false_or, or_false, eq_self, true_implies, false_implies, not_true_eq_false, not_false_eq_true, zc9, zc1, zc2, zc3, zc1000, nI_m9, nI_add, pk_mul, ix_nI, vpT, zk_zpi, zn_zpi, zr_zpi, zk_zpa, zn_zpa, zr_zpa, zsz_zpi, zsz_zpa, zi_zpa, zpi_pa, zpa_zpa, true_and, and_true, and_self, zk_WST, zn_WST, zsz_WST, zi_WST, zi_WST0, zr_WST5, zr_WSTN, zpa_WST, zpa_WST0, zpr_WST5, zup2_eq, zup2_ne, zup_eq, zup_ne, q22, q23, q24, q25, q26, q27, zAk26, wk, wr7, wr8, wr9, wr10, wr11, wk1, wk2, wk3, wk4, wk5, wn1, wn2, wn3, wn4, wn5, wRr, wRk, wR5, wRs, wRn, wSr, wSk, wKr, wKk, wTk, g0, ltle, eq_false hl', not_not_intro]
        exact ACT_n hq n2
      · rw [if_neg hl, z0le] at hc
        exact absurd trivial hc
    · rw [if_neg hin] at hq
      (refine eX7_passDays 200 ?_; simp (disch := omega) only [↓wX7_passDays_0, ↓wX7_passDays_1, ↓wX7_passDays_2, ↓wX7_passDays_4, ↓wX7_passDays_7, ↓wX7_passDays_10, ↓wX7_passDays_11, ↓wX7_passDays_12, ↓wX7_passDays_13, ↓wX7_passDays_16, ↓wX7_passDays_17, ↓wX7_passDays_18, ↓wX7_passDays_21, ↓wX7_passDays_24, ↓wX7_passDays_26, ↓wX7_passDays_27, ↓wX7_passDays_28, ↓wX7_passDays_31, ↓wX7_passDays_32, ↓wX7_passDays_33, ↓wX7_passDays_34, ↓wX7_passDays_35, ↓wX7_passDays_36, ↓wX7_passDays_39, ↓wX7_passDays_40, ↓wX7_passDays_43, ↓wX7_passDays_44, ↓wX7_passDays_47, ↓wX7_passDays_48, ↓wX7_passDays_51, ↓wX7_passDays_52, ↓wX7_passDays_53, ↓wX7_passDays_56, ↓wX7_passDays_57, ↓wX7_passDays_58, ↓wX7_passDays_61, ↓wX7_passDays_64, ↓wX7_passDays_67, ↓wX7_passDays_68, ↓wX7_passDays_71, ↓wX7_passDays_72, ↓wX7_passDays_73, zQi_def, zQa_def, zQv_def, nI00, nI10, nI11, nI01, true_or, or_true, false_or, or_false, eq_self, true_implies, false_implies, not_true_eq_false, not_false_eq_true, zc9, zc1, zc2, zc3, zc1000, nI_m9, nI_add, pk_mul, ix_nI, vpT, zk_zpi, zn_zpi, zr_zpi, zk_zpa, zn_zpa, zr_zpa, zsz_zpi, zsz_zpa, zi_zpa, zpi_pa, zpa_zpa, true_and, and_true, and_self, zk_WST, zn_WST, zsz_WST, zi_WST, zi_WST0, zr_WST5, zr_WSTN, zpa_WST, zpa_WST0, zpr_WST5, zup2_eq, zup2_ne, zup_eq, zup_ne, q22, q23, q24, q25, q26, q27, zAk26, wk, wr7, wr8, wr9, wr10, wr11, wk1, wk2, wk3, wk4, wk5, wn1, wn2, wn3, wn4, wn5, wRr, wRk, wR5, wRs, wRn, wSr, wSk, wKr, wKk, wTk, g0])
      refine v_within ?_
      rw [zb_f hin]
      simp (disch := omega) only [↓wX7_passDays_0, ↓wX7_passDays_1, ↓wX7_passDays_2, ↓wX7_passDays_4, ↓wX7_passDays_7, ↓wX7_passDays_10, ↓wX7_passDays_11, ↓wX7_passDays_12, ↓wX7_passDays_13, ↓wX7_passDays_16, ↓wX7_passDays_17, ↓wX7_passDays_18, ↓wX7_passDays_21, ↓wX7_passDays_24, ↓wX7_passDays_26, ↓wX7_passDays_27, ↓wX7_passDays_28, ↓wX7_passDays_31, ↓wX7_passDays_32, ↓wX7_passDays_33, ↓wX7_passDays_34, ↓wX7_passDays_35, ↓wX7_passDays_36, ↓wX7_passDays_39, ↓wX7_passDays_40, ↓wX7_passDays_43, ↓wX7_passDays_44, ↓wX7_passDays_47, ↓wX7_passDays_48, ↓wX7_passDays_51, ↓wX7_passDays_52, ↓wX7_passDays_53, ↓wX7_passDays_56, ↓wX7_passDays_57, ↓wX7_passDays_58, ↓wX7_passDays_61, ↓wX7_passDays_64, ↓wX7_passDays_67, ↓wX7_passDays_68, ↓wX7_passDays_71, ↓wX7_passDays_72, ↓wX7_passDays_73, zQi_def, zQa_def, zQv_def, nI00, nI10, nI11, nI01, true_or, or_true, false_or, or_false, eq_self, true_implies, false_implies, not_true_eq_false, not_false_eq_true, zc9, zc1, zc2, zc3, zc1000, nI_m9, nI_add, pk_mul, ix_nI, vpT, zk_zpi, zn_zpi, zr_zpi, zk_zpa, zn_zpa, zr_zpa, zsz_zpi, zsz_zpa, zi_zpa, zpi_pa, zpa_zpa, true_and, and_true, and_self, zk_WST, zn_WST, zsz_WST, zi_WST, zi_WST0, zr_WST5, zr_WSTN, zpa_WST, zpa_WST0, zpr_WST5, zup2_eq, zup2_ne, zup_eq, zup_ne, q22, q23, q24, q25, q26, q27, zAk26, wk, wr7, wr8, wr9, wr10, wr11, wk1, wk2, wk3, wk4, wk5, wn1, wn2, wn3, wn4, wn5, wRr, wRk, wR5, wRs, wRn, wSr, wSk, wKr, wKk, wTk]
      exact ACT_n hq n1
theorem pN_1 {nr nk : Nat} (d : Nat) : ∀ (r : Nat → Int32) (a b : Int32), (pN nr nk d r a).1 = (pN nr nk d r b).1 := by
  induction d with
  | zero => intro r a b; rfl
  | succ d ih => intro r a b; unfold pN; exact ih _ _ _
theorem l_lateC {E : zE} {Q : Int32 → zH → Prop} {w nr nk D a b : Nat} {h : zH} {k' n' : Nat} (hw : WS h w) (hD : D ≤ 60) (ha : a < nk) (hb7 : b < 7) (d : Nat) : ∀ (G : Nat → Nat → Int32) (p : Nat → Nat) (r : Nat → Int32) (i n td : Nat), i + d = D → td + d ≤ 199 → CR G p r nr nk n td →
    (∀ G' p', PM p' → Q ((pN nr nk d r (nI 0)).1 (281 + 7 * a + b)) (WST h w G' p')) → zJ E mX7_keeperPartBehind (zQi Q) 48 [some (.inr w), some (.inl (nI a)), some (.inl (nI D)), some (.inl (nI b)), some (.inl (nI i))] [] (WST h w G p) k' n' := by
  obtain ⟨wk, ⟨wr7, wr8, wr9, wr10, wr11⟩, ⟨wk1, wk2, wk3, wk4, wk5⟩, ⟨wn1, wn2, wn3, wn4, wn5⟩, ⟨wRr, wRk, wR5, wRs, wRn⟩, ⟨wSr, wSk⟩, ⟨wKr, wKk⟩, wTk⟩ := id hw
  induction d with
  | zero =>
    intro G p r i n td hi htd hR hq
    obtain rfl : i = D := by omega
    have hb := hR.1.2.2.2.2.1
    (refine jX7_keeperPartBehind 200 ?_; simp (disch := omega) only [↓wX7_keeperPartBehind_0, ↓wX7_keeperPartBehind_1, ↓wX7_keeperPartBehind_2, ↓wX7_keeperPartBehind_5, ↓wX7_keeperPartBehind_8, ↓wX7_keeperPartBehind_9, ↓wX7_keeperPartBehind_10, ↓wX7_keeperPartBehind_12, ↓wX7_keeperPartBehind_15, ↓wX7_keeperPartBehind_18, ↓wX7_keeperPartBehind_19, ↓wX7_keeperPartBehind_20, ↓wX7_keeperPartBehind_22, ↓wX7_keeperPartBehind_25, ↓wX7_keeperPartBehind_28, ↓wX7_keeperPartBehind_29, ↓wX7_keeperPartBehind_30, ↓wX7_keeperPartBehind_31, ↓wX7_keeperPartBehind_34, ↓wX7_keeperPartBehind_35, ↓wX7_keeperPartBehind_36, ↓wX7_keeperPartBehind_39, ↓wX7_keeperPartBehind_42, ↓wX7_keeperPartBehind_44, ↓wX7_keeperPartBehind_45, ↓wX7_keeperPartBehind_46, ↓wX7_keeperPartBehind_48, ↓wX7_keeperPartBehind_50, ↓wX7_keeperPartBehind_51, ↓wX7_keeperPartBehind_54, ↓wX7_keeperPartBehind_55, ↓wX7_keeperPartBehind_56, ↓wX7_keeperPartBehind_59, ↓wX7_keeperPartBehind_60, ↓wX7_keeperPartBehind_63, ↓wX7_keeperPartBehind_66, ↓wX7_keeperPartBehind_67, ↓wX7_keeperPartBehind_68, ↓wX7_keeperPartBehind_69, ↓wX7_keeperPartBehind_72, zQi_def, zQa_def, zQv_def, nI00, nI10, nI11, nI01, true_or, or_true, false_or, or_false, eq_self, true_implies, false_implies, not_true_eq_false, not_false_eq_true, zc9, zc1, zc2, zc3, zc1000, nI_m9, nI_add, pk_mul, ix_nI, vpT, zk_zpi, zn_zpi, zr_zpi, zk_zpa, zn_zpa, zr_zpa, zsz_zpi, zsz_zpa, zi_zpa, zpi_pa, zpa_zpa, true_and, and_true, and_self, zk_WST, zn_WST, zsz_WST, zi_WST, zi_WST0, zr_WST5, zr_WSTN, zpa_WST, zpa_WST0, zpr_WST5, zup2_eq, zup2_ne, zup_eq, zup_ne, q22, q23, q24, q25, q26, q27, zAk26, wk, wr7, wr8, wr9, wr10, wr11, wk1, wk2, wk3, wk4, wk5, wn1, wn2, wn3, wn4, wn5, wRr, wRk, wR5, wRs, wRn, wSr, wSk, wKr, wKk, wTk, nI_leI, Nat.le_refl])
    refine v_keeperPart hw hR ?_
    try simp (disch := omega) only [↓wX7_keeperPartBehind_0, ↓wX7_keeperPartBehind_1, ↓wX7_keeperPartBehind_2, ↓wX7_keeperPartBehind_5, ↓wX7_keeperPartBehind_8, ↓wX7_keeperPartBehind_9, ↓wX7_keeperPartBehind_10, ↓wX7_keeperPartBehind_12, ↓wX7_keeperPartBehind_15, ↓wX7_keeperPartBehind_18, ↓wX7_keeperPartBehind_19, ↓wX7_keeperPartBehind_20, ↓wX7_keeperPartBehind_22, ↓wX7_keeperPartBehind_25, ↓wX7_keeperPartBehind_28, ↓wX7_keeperPartBehind_29, ↓wX7_keeperPartBehind_30, ↓wX7_keeperPartBehind_31, ↓wX7_keeperPartBehind_34, ↓wX7_keeperPartBehind_35, ↓wX7_keeperPartBehind_36, ↓wX7_keeperPartBehind_39, ↓wX7_keeperPartBehind_42, ↓wX7_keeperPartBehind_44, ↓wX7_keeperPartBehind_45, ↓wX7_keeperPartBehind_46, ↓wX7_keeperPartBehind_48, ↓wX7_keeperPartBehind_50, ↓wX7_keeperPartBehind_51, ↓wX7_keeperPartBehind_54, ↓wX7_keeperPartBehind_55, ↓wX7_keeperPartBehind_56, ↓wX7_keeperPartBehind_59, ↓wX7_keeperPartBehind_60, ↓wX7_keeperPartBehind_63, ↓wX7_keeperPartBehind_66, ↓wX7_keeperPartBehind_67, ↓wX7_keeperPartBehind_68, ↓wX7_keeperPartBehind_69, ↓wX7_keeperPartBehind_72, zQi_def, zQa_def, zQv_def]
    unfold qKee
    rw [if_pos ⟨by rw [inN_nI (by omega)]; exact ha, by rw [inN_nI (by omega)]; exact hb7⟩, ixx_nI (by omega), ixx_nI (by omega)]
    exact hq G p hR.2.2.2.2.2.2.2
  | succ d ih =>
    intro G p r i n td hi htd hR hq
    have hle : ¬ D ≤ i := by omega
    (refine jX7_keeperPartBehind 200 ?_; simp (disch := omega) only [↓wX7_keeperPartBehind_0, ↓wX7_keeperPartBehind_1, ↓wX7_keeperPartBehind_2, ↓wX7_keeperPartBehind_5, ↓wX7_keeperPartBehind_8, ↓wX7_keeperPartBehind_9, ↓wX7_keeperPartBehind_10, ↓wX7_keeperPartBehind_12, ↓wX7_keeperPartBehind_15, ↓wX7_keeperPartBehind_18, ↓wX7_keeperPartBehind_19, ↓wX7_keeperPartBehind_20, ↓wX7_keeperPartBehind_22, ↓wX7_keeperPartBehind_25, ↓wX7_keeperPartBehind_28, ↓wX7_keeperPartBehind_29, ↓wX7_keeperPartBehind_30, ↓wX7_keeperPartBehind_31, ↓wX7_keeperPartBehind_34, ↓wX7_keeperPartBehind_35, ↓wX7_keeperPartBehind_36, ↓wX7_keeperPartBehind_39, ↓wX7_keeperPartBehind_42, ↓wX7_keeperPartBehind_44, ↓wX7_keeperPartBehind_45, ↓wX7_keeperPartBehind_46, ↓wX7_keeperPartBehind_48, ↓wX7_keeperPartBehind_50, ↓wX7_keeperPartBehind_51, ↓wX7_keeperPartBehind_54, ↓wX7_keeperPartBehind_55, ↓wX7_keeperPartBehind_56, ↓wX7_keeperPartBehind_59, ↓wX7_keeperPartBehind_60, ↓wX7_keeperPartBehind_63, ↓wX7_keeperPartBehind_66, ↓wX7_keeperPartBehind_67, ↓wX7_keeperPartBehind_68, ↓wX7_keeperPartBehind_69, ↓wX7_keeperPartBehind_72, zQi_def, zQa_def, zQv_def, nI00, nI10, nI11, nI01, true_or, or_true, false_or, or_false, eq_self, true_implies, false_implies, not_true_eq_false, not_false_eq_true, zc9, zc1, zc2, zc3, zc1000, nI_m9, nI_add, pk_mul, ix_nI, vpT, zk_zpi, zn_zpi, zr_zpi, zk_zpa, zn_zpa, zr_zpa, zsz_zpi, zsz_zpa, zi_zpa, zpi_pa, zpa_zpa, true_and, and_true, and_self, zk_WST, zn_WST, zsz_WST, zi_WST, zi_WST0, zr_WST5, zr_WSTN, zpa_WST, zpa_WST0, zpr_WST5, zup2_eq, zup2_ne, zup_eq, zup_ne, q22, q23, q24, q25, q26, q27, zAk26, wk, wr7, wr8, wr9, wr10, wr11, wk1, wk2, wk3, wk4, wk5, wn1, wn2, wn3, wn4, wn5, wRr, wRk, wR5, wRs, wRn, wSr, wSk, wKr, wKk, wTk, nI_leI, hle])
    refine v_passDaysN (D := 1) hw hR (by omega) (by omega) (by omega) ?_
    intro G' p' n1 hR'
    try simp (disch := omega) only [↓wX7_keeperPartBehind_0, ↓wX7_keeperPartBehind_1, ↓wX7_keeperPartBehind_2, ↓wX7_keeperPartBehind_5, ↓wX7_keeperPartBehind_8, ↓wX7_keeperPartBehind_9, ↓wX7_keeperPartBehind_10, ↓wX7_keeperPartBehind_12, ↓wX7_keeperPartBehind_15, ↓wX7_keeperPartBehind_18, ↓wX7_keeperPartBehind_19, ↓wX7_keeperPartBehind_20, ↓wX7_keeperPartBehind_22, ↓wX7_keeperPartBehind_25, ↓wX7_keeperPartBehind_28, ↓wX7_keeperPartBehind_29, ↓wX7_keeperPartBehind_30, ↓wX7_keeperPartBehind_31, ↓wX7_keeperPartBehind_34, ↓wX7_keeperPartBehind_35, ↓wX7_keeperPartBehind_36, ↓wX7_keeperPartBehind_39, ↓wX7_keeperPartBehind_42, ↓wX7_keeperPartBehind_44, ↓wX7_keeperPartBehind_45, ↓wX7_keeperPartBehind_46, ↓wX7_keeperPartBehind_48, ↓wX7_keeperPartBehind_50, ↓wX7_keeperPartBehind_51, ↓wX7_keeperPartBehind_54, ↓wX7_keeperPartBehind_55, ↓wX7_keeperPartBehind_56, ↓wX7_keeperPartBehind_59, ↓wX7_keeperPartBehind_60, ↓wX7_keeperPartBehind_63, ↓wX7_keeperPartBehind_66, ↓wX7_keeperPartBehind_67, ↓wX7_keeperPartBehind_68, ↓wX7_keeperPartBehind_69, ↓wX7_keeperPartBehind_72, zQi_def, zQa_def, zQv_def, nI00, nI10, nI11, nI01, true_or, or_true, false_or, or_false, eq_self, true_implies, false_implies, not_true_eq_false, not_false_eq_true, zc9, zc1, zc2, zc3, zc1000, nI_m9, nI_add, pk_mul, ix_nI, vpT, zk_zpi, zn_zpi, zr_zpi, zk_zpa, zn_zpa, zr_zpa, zsz_zpi, zsz_zpa, zi_zpa, zpi_pa, zpa_zpa, true_and, and_true, and_self]
    refine ih _ _ _ (i + 1) n1 (td + 1) (by omega) (by omega) hR' ?_
    intro G'' p'' hP
    have := hq G'' p'' hP
    unfold pN at this
    rw [pN_1 d _ _ (nI 0)] at this
    exact this
theorem v_later {E : zE} {Q : Int32 → zH → Prop} {w nr nk n td : Nat} {k d x : Int32} {h : zH} {G : Nat → Nat → Int32} {p : Nat → Nat} {r : Nat → Int32} (hw : WS h w) (hR : CR G p r nr nk n td)
    (hq : ∀ G' p', PM p' → Q (if inN k nk ∧ inN d 61 ∧ inN x 7 then (if nI (td + ixx d) ≤ nI 199 then (pN nr nk (ixx d) r (nI 0)).1 (281 + 7 * ixx k + ixx x) else -2) else -1) (WST h w G' p')) : zMi E mX7_keeperPartBehind [.inr w, .inl k, .inl d, .inl x] (WST h w G p) Q := by
  obtain ⟨wk, ⟨wr7, wr8, wr9, wr10, wr11⟩, ⟨wk1, wk2, wk3, wk4, wk5⟩, ⟨wn1, wn2, wn3, wn4, wn5⟩, ⟨wRr, wRk, wR5, wRs, wRn⟩, ⟨wSr, wSk⟩, ⟨wKr, wKk⟩, wTk⟩ := id hw
  obtain ⟨hI, hX, hA, ⟨hB1, hB2⟩, ⟨h3, hRd, hSt, hFr, hLd⟩, ⟨hK, hKf⟩, hTu, hP⟩ := id hR
  obtain ⟨i1, i2, i3, i0, hb, hTW, hKP⟩ := id hI
  obtain ⟨a0, a1, a2, a3, a4, a5, a6⟩ := id hA
  have g0 : G 0 0 = nI td := a0.trans i0
  have g5 : G 0 5 = nI nk := a5.trans i2
  (refine eX7_keeperPartBehind 200 ?_; simp (disch := omega) only [↓wX7_keeperPartBehind_0, ↓wX7_keeperPartBehind_1, ↓wX7_keeperPartBehind_2, ↓wX7_keeperPartBehind_5, ↓wX7_keeperPartBehind_8, ↓wX7_keeperPartBehind_9, ↓wX7_keeperPartBehind_10, ↓wX7_keeperPartBehind_12, ↓wX7_keeperPartBehind_15, ↓wX7_keeperPartBehind_18, ↓wX7_keeperPartBehind_19, ↓wX7_keeperPartBehind_20, ↓wX7_keeperPartBehind_22, ↓wX7_keeperPartBehind_25, ↓wX7_keeperPartBehind_28, ↓wX7_keeperPartBehind_29, ↓wX7_keeperPartBehind_30, ↓wX7_keeperPartBehind_31, ↓wX7_keeperPartBehind_34, ↓wX7_keeperPartBehind_35, ↓wX7_keeperPartBehind_36, ↓wX7_keeperPartBehind_39, ↓wX7_keeperPartBehind_42, ↓wX7_keeperPartBehind_44, ↓wX7_keeperPartBehind_45, ↓wX7_keeperPartBehind_46, ↓wX7_keeperPartBehind_48, ↓wX7_keeperPartBehind_50, ↓wX7_keeperPartBehind_51, ↓wX7_keeperPartBehind_54, ↓wX7_keeperPartBehind_55, ↓wX7_keeperPartBehind_56, ↓wX7_keeperPartBehind_59, ↓wX7_keeperPartBehind_60, ↓wX7_keeperPartBehind_63, ↓wX7_keeperPartBehind_66, ↓wX7_keeperPartBehind_67, ↓wX7_keeperPartBehind_68, ↓wX7_keeperPartBehind_69, ↓wX7_keeperPartBehind_72, zQi_def, zQa_def, zQv_def, nI00, nI10, nI11, nI01, true_or, or_true, false_or, or_false, eq_self, true_implies, false_implies, not_true_eq_false, not_false_eq_true, zc9, zc1, zc2, zc3, zc1000, nI_m9, nI_add, pk_mul, ix_nI, vpT, zk_zpi, zn_zpi, zr_zpi, zk_zpa, zn_zpa, zr_zpa, zsz_zpi, zsz_zpa, zi_zpa, zpi_pa, zpa_zpa, true_and, and_true, and_self, zk_WST, zn_WST, zsz_WST, zi_WST, zi_WST0, zr_WST5, zr_WSTN, zpa_WST, zpa_WST0, zpr_WST5, zup2_eq, zup2_ne, zup_eq, zup_ne, q22, q23, q24, q25, q26, q27, zAk26, wk])
  refine v_hasKeeper hw hb.2.2.2 g5 ?_
  by_cases hk : inN k nk
  · obtain ⟨a, ha, rfl⟩ := (inN_iff (by omega)).mp hk
    simp (disch := omega) only [zb_t hk, ↓wX7_keeperPartBehind_0, ↓wX7_keeperPartBehind_1, ↓wX7_keeperPartBehind_2, ↓wX7_keeperPartBehind_5, ↓wX7_keeperPartBehind_8, ↓wX7_keeperPartBehind_9, ↓wX7_keeperPartBehind_10, ↓wX7_keeperPartBehind_12, ↓wX7_keeperPartBehind_15, ↓wX7_keeperPartBehind_18, ↓wX7_keeperPartBehind_19, ↓wX7_keeperPartBehind_20, ↓wX7_keeperPartBehind_22, ↓wX7_keeperPartBehind_25, ↓wX7_keeperPartBehind_28, ↓wX7_keeperPartBehind_29, ↓wX7_keeperPartBehind_30, ↓wX7_keeperPartBehind_31, ↓wX7_keeperPartBehind_34, ↓wX7_keeperPartBehind_35, ↓wX7_keeperPartBehind_36, ↓wX7_keeperPartBehind_39, ↓wX7_keeperPartBehind_42, ↓wX7_keeperPartBehind_44, ↓wX7_keeperPartBehind_45, ↓wX7_keeperPartBehind_46, ↓wX7_keeperPartBehind_48, ↓wX7_keeperPartBehind_50, ↓wX7_keeperPartBehind_51, ↓wX7_keeperPartBehind_54, ↓wX7_keeperPartBehind_55, ↓wX7_keeperPartBehind_56, ↓wX7_keeperPartBehind_59, ↓wX7_keeperPartBehind_60, ↓wX7_keeperPartBehind_63, ↓wX7_keeperPartBehind_66, ↓wX7_keeperPartBehind_67, ↓wX7_keeperPartBehind_68, ↓wX7_keeperPartBehind_69, ↓wX7_keeperPartBehind_72, zQi_def, zQa_def, zQv_def, nI00, nI10, nI11, nI01, true_or, or_true, false_or, or_false, eq_self, true_implies, false_implies, not_true_eq_false, not_false_eq_true, zc9, zc1, zc2, zc3, zc1000, nI_m9, nI_add, pk_mul, ix_nI, vpT, zk_zpi, zn_zpi, zr_zpi, zk_zpa, zn_zpa, zr_zpa, zsz_zpi, zsz_zpa, zi_zpa, zpi_pa, zpa_zpa, true_and, and_true, and_self, zk_WST, zn_WST, zsz_WST, zi_WST, zi_WST0, zr_WST5, zr_WSTN, zpa_WST, zpa_WST0, zpr_WST5, zup2_eq, zup2_ne, zup_eq, zup_ne, q22, q23, q24, q25, q26, q27, zAk26, wk, wr7, wr8, wr9, wr10, wr11, wk1, wk2, wk3, wk4, wk5, wn1, wn2, wn3, wn4, wn5, wRr, wRk, wR5, wRs, wRn, wSr, wSk, wKr, wKk, wTk]
    refine v_within ?_
    by_cases hd : inN d 61
    · obtain ⟨e, he, rfl⟩ := (inN_iff (by omega)).mp hd
      rw [zb_in0 (by omega), zb_t hd]
      simp (disch := omega) only [↓wX7_keeperPartBehind_0, ↓wX7_keeperPartBehind_1, ↓wX7_keeperPartBehind_2, ↓wX7_keeperPartBehind_5, ↓wX7_keeperPartBehind_8, ↓wX7_keeperPartBehind_9, ↓wX7_keeperPartBehind_10, ↓wX7_keeperPartBehind_12, ↓wX7_keeperPartBehind_15, ↓wX7_keeperPartBehind_18, ↓wX7_keeperPartBehind_19, ↓wX7_keeperPartBehind_20, ↓wX7_keeperPartBehind_22, ↓wX7_keeperPartBehind_25, ↓wX7_keeperPartBehind_28, ↓wX7_keeperPartBehind_29, ↓wX7_keeperPartBehind_30, ↓wX7_keeperPartBehind_31, ↓wX7_keeperPartBehind_34, ↓wX7_keeperPartBehind_35, ↓wX7_keeperPartBehind_36, ↓wX7_keeperPartBehind_39, ↓wX7_keeperPartBehind_42, ↓wX7_keeperPartBehind_44, ↓wX7_keeperPartBehind_45, ↓wX7_keeperPartBehind_46, ↓wX7_keeperPartBehind_48, ↓wX7_keeperPartBehind_50, ↓wX7_keeperPartBehind_51, ↓wX7_keeperPartBehind_54, ↓wX7_keeperPartBehind_55, ↓wX7_keeperPartBehind_56, ↓wX7_keeperPartBehind_59, ↓wX7_keeperPartBehind_60, ↓wX7_keeperPartBehind_63, ↓wX7_keeperPartBehind_66, ↓wX7_keeperPartBehind_67, ↓wX7_keeperPartBehind_68, ↓wX7_keeperPartBehind_69, ↓wX7_keeperPartBehind_72, zQi_def, zQa_def, zQv_def, nI00, nI10, nI11, nI01, true_or, or_true, false_or, or_false, eq_self, true_implies, false_implies, not_true_eq_false, not_false_eq_true, zc9, zc1, zc2, zc3, zc1000, nI_m9, nI_add, pk_mul, ix_nI, vpT, zk_zpi, zn_zpi, zr_zpi, zk_zpa, zn_zpa, zr_zpa, zsz_zpi, zsz_zpa, zi_zpa, zpi_pa, zpa_zpa, true_and, and_true, and_self, zk_WST, zn_WST, zsz_WST, zi_WST, zi_WST0, zr_WST5, zr_WSTN, zpa_WST, zpa_WST0, zpr_WST5, zup2_eq, zup2_ne, zup_eq, zup_ne, q22, q23, q24, q25, q26, q27, zAk26, wk, wr7, wr8, wr9, wr10, wr11, wk1, wk2, wk3, wk4, wk5, wn1, wn2, wn3, wn4, wn5, wRr, wRk, wR5, wRs, wRn, wSr, wSk, wKr, wKk, wTk]
      refine v_within ?_
      by_cases hx : inN x 7
      · obtain ⟨b, hb7, rfl⟩ := (inN_iff (by omega)).mp hx
        rw [zb_in0 (by omega), zb_t hx]
        rw [if_pos (show inN (nI a) nk = true ∧ inN (nI e) 61 = true ∧ inN (nI b) 7 = true from ⟨hk, hd, hx⟩), ixx_nI (by omega), ixx_nI (by omega), ixx_nI (by omega)] at hq
        by_cases hl : td + e ≤ 199
        · rw [if_pos ((nI_leI (by omega) (by omega)).mpr hl)] at hq
          simp (disch := omega) only [↓wX7_keeperPartBehind_0, ↓wX7_keeperPartBehind_1, ↓wX7_keeperPartBehind_2, ↓wX7_keeperPartBehind_5, ↓wX7_keeperPartBehind_8, ↓wX7_keeperPartBehind_9, ↓wX7_keeperPartBehind_10, ↓wX7_keeperPartBehind_12, ↓wX7_keeperPartBehind_15, ↓wX7_keeperPartBehind_18, ↓wX7_keeperPartBehind_19, ↓wX7_keeperPartBehind_20, ↓wX7_keeperPartBehind_22, ↓wX7_keeperPartBehind_25, ↓wX7_keeperPartBehind_28, ↓wX7_keeperPartBehind_29, ↓wX7_keeperPartBehind_30, ↓wX7_keeperPartBehind_31, ↓wX7_keeperPartBehind_34, ↓wX7_keeperPartBehind_35, ↓wX7_keeperPartBehind_36, ↓wX7_keeperPartBehind_39, ↓wX7_keeperPartBehind_42, ↓wX7_keeperPartBehind_44, ↓wX7_keeperPartBehind_45, ↓wX7_keeperPartBehind_46, ↓wX7_keeperPartBehind_48, ↓wX7_keeperPartBehind_50, ↓wX7_keeperPartBehind_51, ↓wX7_keeperPartBehind_54, ↓wX7_keeperPartBehind_55, ↓wX7_keeperPartBehind_56, ↓wX7_keeperPartBehind_59, ↓wX7_keeperPartBehind_60, ↓wX7_keeperPartBehind_63, ↓wX7_keeperPartBehind_66, ↓wX7_keeperPartBehind_67, ↓wX7_keeperPartBehind_68, ↓wX7_keeperPartBehind_69, ↓wX7_keeperPartBehind_72, zQi_def, zQa_def, zQv_def, nI00, nI10, nI11, nI01, true_or, or_true, false_or, or_false, eq_self, true_implies, false_implies, not_true_eq_false, not_false_eq_true, zc9, zc1, zc2, zc3, zc1000, nI_m9, nI_add, pk_mul, ix_nI, vpT, zk_zpi, zn_zpi, zr_zpi, zk_zpa, zn_zpa, zr_zpa, zsz_zpi, zsz_zpa, zi_zpa, zpi_pa, zpa_zpa, true_and, and_true, and_self, zk_WST, zn_WST, zsz_WST, zi_WST, zi_WST0, zr_WST5, zr_WSTN, zpa_WST, zpa_WST0, zpr_WST5, zup2_eq, zup2_ne, zup_eq, zup_ne, q22, q23, q24, q25, q26, q27, zAk26, wk, wr7, wr8, wr9, wr10, wr11, wk1, wk2, wk3, wk4, wk5, wn1, wn2, wn3, wn4, wn5, wRr, wRk, wR5, wRs, wRn, wSr, wSk, wKr, wKk, wTk, g0, nI_leI, ltle, hl]
          exact l_lateC hw (by omega) ha hb7 e G p r 0 n td (by omega) hl hR hq
        · rw [if_neg (fun q => hl ((nI_leI (by omega) (by omega)).mp q))] at hq
          simp (disch := omega) only [↓wX7_keeperPartBehind_0, ↓wX7_keeperPartBehind_1, ↓wX7_keeperPartBehind_2, ↓wX7_keeperPartBehind_5, ↓wX7_keeperPartBehind_8, ↓wX7_keeperPartBehind_9, ↓wX7_keeperPartBehind_10, ↓wX7_keeperPartBehind_12, ↓wX7_keeperPartBehind_15, ↓wX7_keeperPartBehind_18, ↓wX7_keeperPartBehind_19, ↓wX7_keeperPartBehind_20, ↓wX7_keeperPartBehind_22, ↓wX7_keeperPartBehind_25, ↓wX7_keeperPartBehind_28, ↓wX7_keeperPartBehind_29, ↓wX7_keeperPartBehind_30, ↓wX7_keeperPartBehind_31, ↓wX7_keeperPartBehind_34, ↓wX7_keeperPartBehind_35, ↓wX7_keeperPartBehind_36, ↓wX7_keeperPartBehind_39, ↓wX7_keeperPartBehind_42, ↓wX7_keeperPartBehind_44, ↓wX7_keeperPartBehind_45, ↓wX7_keeperPartBehind_46, ↓wX7_keeperPartBehind_48, ↓wX7_keeperPartBehind_50, ↓wX7_keeperPartBehind_51, ↓wX7_keeperPartBehind_54, ↓wX7_keeperPartBehind_55, ↓wX7_keeperPartBehind_56, ↓wX7_keeperPartBehind_59, ↓wX7_keeperPartBehind_60, ↓wX7_keeperPartBehind_63, ↓wX7_keeperPartBehind_66, ↓wX7_keeperPartBehind_67, ↓wX7_keeperPartBehind_68, ↓wX7_keeperPartBehind_69, ↓wX7_keeperPartBehind_72, zQi_def, zQa_def, zQv_def, nI00, nI10, nI11, nI01, true_or, or_true, false_or, or_false, eq_self, true_implies, false_implies, not_true_eq_false, not_false_eq_true, zc9, zc1, zc2, zc3, zc1000, nI_m9, nI_add, pk_mul, ix_nI, vpT, zk_zpi, zn_zpi, zr_zpi, zk_zpa, zn_zpa, zr_zpa, zsz_zpi, zsz_zpa, zi_zpa, zpi_pa, zpa_zpa, true_and, and_true, and_self, zk_WST, zn_WST, zsz_WST, zi_WST, zi_WST0, zr_WST5, zr_WSTN, zpa_WST, zpa_WST0, zpr_WST5, zup2_eq, zup2_ne, zup_eq, zup_ne, q22, q23, q24, q25, q26, q27, zAk26, wk, wr7, wr8, wr9, wr10, wr11, wk1, wk2, wk3, wk4, wk5, wn1, wn2, wn3, wn4, wn5, wRr, wRk, wR5, wRs, wRn, wSr, wSk, wKr, wKk, wTk, g0, nI_leI, ltle, hl]
          exact hq G p hP
      · rw [if_neg (fun q => hx q.2.2)] at hq
        simp (disch := omega) only [zb_in0, zb_f hx, ↓wX7_keeperPartBehind_0, ↓wX7_keeperPartBehind_1, ↓wX7_keeperPartBehind_2, ↓wX7_keeperPartBehind_5, ↓wX7_keeperPartBehind_8, ↓wX7_keeperPartBehind_9, ↓wX7_keeperPartBehind_10, ↓wX7_keeperPartBehind_12, ↓wX7_keeperPartBehind_15, ↓wX7_keeperPartBehind_18, ↓wX7_keeperPartBehind_19, ↓wX7_keeperPartBehind_20, ↓wX7_keeperPartBehind_22, ↓wX7_keeperPartBehind_25, ↓wX7_keeperPartBehind_28, ↓wX7_keeperPartBehind_29, ↓wX7_keeperPartBehind_30, ↓wX7_keeperPartBehind_31, ↓wX7_keeperPartBehind_34, ↓wX7_keeperPartBehind_35, ↓wX7_keeperPartBehind_36, ↓wX7_keeperPartBehind_39, ↓wX7_keeperPartBehind_42, ↓wX7_keeperPartBehind_44, ↓wX7_keeperPartBehind_45, ↓wX7_keeperPartBehind_46, ↓wX7_keeperPartBehind_48, ↓wX7_keeperPartBehind_50, ↓wX7_keeperPartBehind_51, ↓wX7_keeperPartBehind_54, ↓wX7_keeperPartBehind_55, ↓wX7_keeperPartBehind_56, ↓wX7_keeperPartBehind_59, ↓wX7_keeperPartBehind_60, ↓wX7_keeperPartBehind_63, ↓wX7_keeperPartBehind_66, ↓wX7_keeperPartBehind_67, ↓wX7_keeperPartBehind_68, ↓wX7_keeperPartBehind_69, ↓wX7_keeperPartBehind_72, zQi_def, zQa_def, zQv_def, nI00, nI10, nI11, nI01, true_or, or_true, false_or, or_false, eq_self, true_implies, false_implies, not_true_eq_false, not_false_eq_true, zc9, zc1, zc2, zc3, zc1000, nI_m9, nI_add, pk_mul, ix_nI, vpT, zk_zpi, zn_zpi, zr_zpi, zk_zpa, zn_zpa, zr_zpa, zsz_zpi, zsz_zpa, zi_zpa, zpi_pa, zpa_zpa, true_and, and_true, and_self, zk_WST, zn_WST, zsz_WST, zi_WST, zi_WST0, zr_WST5, zr_WSTN, zpa_WST, zpa_WST0, zpr_WST5, zup2_eq, zup2_ne, zup_eq, zup_ne, q22, q23, q24, q25, q26, q27, zAk26, wk, wr7, wr8, wr9, wr10, wr11, wk1, wk2, wk3, wk4, wk5, wn1, wn2, wn3, wn4, wn5, wRr, wRk, wR5, wRs, wRn, wSr, wSk, wKr, wKk, wTk]
        exact hq G p hP
    · rw [if_neg (fun q => hd q.2.1)] at hq
      simp (disch := omega) only [zb_in0, zb_f hd, ↓wX7_keeperPartBehind_0, ↓wX7_keeperPartBehind_1, ↓wX7_keeperPartBehind_2, ↓wX7_keeperPartBehind_5, ↓wX7_keeperPartBehind_8, ↓wX7_keeperPartBehind_9, ↓wX7_keeperPartBehind_10, ↓wX7_keeperPartBehind_12, ↓wX7_keeperPartBehind_15, ↓wX7_keeperPartBehind_18, ↓wX7_keeperPartBehind_19, ↓wX7_keeperPartBehind_20, ↓wX7_keeperPartBehind_22, ↓wX7_keeperPartBehind_25, ↓wX7_keeperPartBehind_28, ↓wX7_keeperPartBehind_29, ↓wX7_keeperPartBehind_30, ↓wX7_keeperPartBehind_31, ↓wX7_keeperPartBehind_34, ↓wX7_keeperPartBehind_35, ↓wX7_keeperPartBehind_36, ↓wX7_keeperPartBehind_39, ↓wX7_keeperPartBehind_42, ↓wX7_keeperPartBehind_44, ↓wX7_keeperPartBehind_45, ↓wX7_keeperPartBehind_46, ↓wX7_keeperPartBehind_48, ↓wX7_keeperPartBehind_50, ↓wX7_keeperPartBehind_51, ↓wX7_keeperPartBehind_54, ↓wX7_keeperPartBehind_55, ↓wX7_keeperPartBehind_56, ↓wX7_keeperPartBehind_59, ↓wX7_keeperPartBehind_60, ↓wX7_keeperPartBehind_63, ↓wX7_keeperPartBehind_66, ↓wX7_keeperPartBehind_67, ↓wX7_keeperPartBehind_68, ↓wX7_keeperPartBehind_69, ↓wX7_keeperPartBehind_72, zQi_def, zQa_def, zQv_def, nI00, nI10, nI11, nI01, true_or, or_true, false_or, or_false, eq_self, true_implies, false_implies, not_true_eq_false, not_false_eq_true, zc9, zc1, zc2, zc3, zc1000, nI_m9, nI_add, pk_mul, ix_nI, vpT, zk_zpi, zn_zpi, zr_zpi, zk_zpa, zn_zpa, zr_zpa, zsz_zpi, zsz_zpa, zi_zpa, zpi_pa, zpa_zpa, true_and, and_true, and_self, zk_WST, zn_WST, zsz_WST, zi_WST, zi_WST0, zr_WST5, zr_WSTN, zpa_WST, zpa_WST0, zpr_WST5, zup2_eq, zup2_ne, zup_eq, zup_ne, q22, q23, q24, q25, q26, q27, zAk26, wk, wr7, wr8, wr9, wr10, wr11, wk1, wk2, wk3, wk4, wk5, wn1, wn2, wn3, wn4, wn5, wRr, wRk, wR5, wRs, wRn, wSr, wSk, wKr, wKk, wTk]
      exact hq G p hP
  · rw [if_neg (fun q => hk q.1)] at hq
    simp (disch := omega) only [zb_f hk, ↓wX7_keeperPartBehind_0, ↓wX7_keeperPartBehind_1, ↓wX7_keeperPartBehind_2, ↓wX7_keeperPartBehind_5, ↓wX7_keeperPartBehind_8, ↓wX7_keeperPartBehind_9, ↓wX7_keeperPartBehind_10, ↓wX7_keeperPartBehind_12, ↓wX7_keeperPartBehind_15, ↓wX7_keeperPartBehind_18, ↓wX7_keeperPartBehind_19, ↓wX7_keeperPartBehind_20, ↓wX7_keeperPartBehind_22, ↓wX7_keeperPartBehind_25, ↓wX7_keeperPartBehind_28, ↓wX7_keeperPartBehind_29, ↓wX7_keeperPartBehind_30, ↓wX7_keeperPartBehind_31, ↓wX7_keeperPartBehind_34, ↓wX7_keeperPartBehind_35, ↓wX7_keeperPartBehind_36, ↓wX7_keeperPartBehind_39, ↓wX7_keeperPartBehind_42, ↓wX7_keeperPartBehind_44, ↓wX7_keeperPartBehind_45, ↓wX7_keeperPartBehind_46, ↓wX7_keeperPartBehind_48, ↓wX7_keeperPartBehind_50, ↓wX7_keeperPartBehind_51, ↓wX7_keeperPartBehind_54, ↓wX7_keeperPartBehind_55, ↓wX7_keeperPartBehind_56, ↓wX7_keeperPartBehind_59, ↓wX7_keeperPartBehind_60, ↓wX7_keeperPartBehind_63, ↓wX7_keeperPartBehind_66, ↓wX7_keeperPartBehind_67, ↓wX7_keeperPartBehind_68, ↓wX7_keeperPartBehind_69, ↓wX7_keeperPartBehind_72, zQi_def, zQa_def, zQv_def, nI00, nI10, nI11, nI01, true_or, or_true, false_or, or_false, eq_self, true_implies, false_implies, not_true_eq_false, not_false_eq_true, zc9, zc1, zc2, zc3, zc1000, nI_m9, nI_add, pk_mul, ix_nI, vpT, zk_zpi, zn_zpi, zr_zpi, zk_zpa, zn_zpa, zr_zpa, zsz_zpi, zsz_zpa, zi_zpa, zpi_pa, zpa_zpa, true_and, and_true, and_self, zk_WST, zn_WST, zsz_WST, zi_WST, zi_WST0, zr_WST5, zr_WSTN, zpa_WST, zpa_WST0, zpr_WST5, zup2_eq, zup2_ne, zup_eq, zup_ne, q22, q23, q24, q25, q26, q27, zAk26, wk, wr7, wr8, wr9, wr10, wr11, wk1, wk2, wk3, wk4, wk5, wn1, wn2, wn3, wn4, wn5, wRr, wRk, wR5, wRs, wRn, wSr, wSk, wKr, wKk, wTk]
    exact hq G p hP

