/-! What an action does to a world's numbers and to the row. -/
theorem RI_up {r : Nat → Int32} {nr nk n td k : Nat} {x : Int32} (hI : RI r nr nk n td) (hk : 4 ≤ k ∧ k < 281) : RI (zup r k x) nr nk n td := by
  obtain ⟨i1, i2, i3, i0, hb, hTW, hKP⟩ := id hI
  exact ⟨by rw [zup_ne (by omega)]; exact i1, by rw [zup_ne (by omega)]; exact i2, by rw [zup_ne (by omega)]; exact i3, by rw [zup_ne (by omega)]; exact i0, hb, fun u hu => TWc (fun f hf => zup_ne (by omega)) (hTW u hu), KP_of (fun q hq => zup_ne (by omega)) hKP⟩
theorem CR_tide {G : Nat → Nat → Int32} {p : Nat → Nat} {r : Nat → Int32} {nr nk n td j : Nat} {y : Int32} (hR : CR G p r nr nk n td) (hj : j < 14) (hy : 0 ≤ y) : CR (zup G 1 (zup (G 1) j y)) p (zup r (7 + j) y) nr nk n td := by
  obtain ⟨hI, hX, hA, ⟨hB1, hB2⟩, ⟨h3, hRd, hSt, hFr, hLd⟩, ⟨hK, hKf⟩, hTu, hP⟩ := id hR
  obtain ⟨hX1, hX2, hX3, hX4, hX5, hX6⟩ := id hX
  have hb := hI.2.2.2.2.1
  refine ⟨RI_up hI (by omega), ⟨?_, (by intro k hk; (try simp (disch := omega) only [zup_ne]); exact hX2 k hk), (by intro i hi; obtain ⟨q, q1, q2, q3⟩ := hX3 i hi; exact ⟨q, q1, by (try simp (disch := omega) only [zup_ne]); exact q2, by first | exact q3 | (rw [kO_congr (r' := r) (fun k hk => by simp (disch := omega) only [zup_ne])]; exact q3)⟩), (by intro i hi s hs; (try simp (disch := omega) only [zup_ne]); exact hX4 i hi s hs), (by intro k hk; (try simp (disch := omega) only [zup_ne]); exact hX5 k hk), (by intro t ht; (try simp (disch := omega) only [zup_ne]); exact hX6 t ht)⟩, (by simp (disch := omega) only [CA, zup_ne, true_and, and_true]; exact hA), ⟨?_, (by intro k hk; (try simp (disch := omega) only [zup_ne]); exact hB2 k hk)⟩, ⟨(by intro i hi f hf; (try simp (disch := omega) only [zup_ne]); exact h3 i hi f hf), (by intro i hi; (try simp (disch := omega) only [zup_ne]); exact hRd i hi), (by intro i hi s hs f hf; (try simp (disch := omega) only [zup_ne]); exact hSt i hi s hs f hf), (by intro i hi hi3; exact ⟨by (try simp (disch := omega) only [zup_ne]); exact (hFr i hi hi3).1, fun s hs f hf => by (try simp (disch := omega) only [zup_ne]); exact (hFr i hi hi3).2 s hs f hf⟩), (by intro i hi; (try simp (disch := omega) only [zup_ne]); exact hLd i hi)⟩, ⟨(by intro k hk f hf; (try simp (disch := omega) only [zup_ne]); exact hK k hk f hf), (by intro k hk hk8; exact ⟨by (try simp (disch := omega) only [zup_ne]); exact (hKf k hk hk8).1, fun f hf hf7 => by (try simp (disch := omega) only [zup_ne]); exact (hKf k hk hk8).2 f hf hf7⟩)⟩, (by intro t ht; have hpt := hP.1 t (by omega); exact ⟨fun f hf => by (try simp (disch := omega) only [zup_ne]); exact (hTu t ht).1 f hf, by (try simp (disch := omega) only [zup_ne]); exact (hTu t ht).2⟩), hP⟩
  · intro k hk
    by_cases e : k = j
    · rw [zup_eq (by omega)]; exact hy
    · rw [zup_ne (by omega)]; exact hX1 k hk
  · intro k hk
    by_cases e : k = j
    · rw [zup_eq rfl, zup_eq e, zup_eq (by omega)]
    · rw [zup_eq rfl, zup_ne e, zup_ne (by omega)]; exact hB1 k hk
theorem CR_swell {G : Nat → Nat → Int32} {p : Nat → Nat} {r : Nat → Int32} {nr nk n td j : Nat} {y : Int32} (hR : CR G p r nr nk n td) (hj : j < 200) (hy : 0 ≤ y) : CR (zup G 2 (zup (G 2) j y)) p (zup r (21 + j) y) nr nk n td := by
  obtain ⟨hI, hX, hA, ⟨hB1, hB2⟩, ⟨h3, hRd, hSt, hFr, hLd⟩, ⟨hK, hKf⟩, hTu, hP⟩ := id hR
  obtain ⟨hX1, hX2, hX3, hX4, hX5, hX6⟩ := id hX
  have hb := hI.2.2.2.2.1
  refine ⟨RI_up hI (by omega), ⟨(by intro k hk; (try simp (disch := omega) only [zup_ne]); exact hX1 k hk), ?_, (by intro i hi; obtain ⟨q, q1, q2, q3⟩ := hX3 i hi; exact ⟨q, q1, by (try simp (disch := omega) only [zup_ne]); exact q2, by first | exact q3 | (rw [kO_congr (r' := r) (fun k hk => by simp (disch := omega) only [zup_ne])]; exact q3)⟩), (by intro i hi s hs; (try simp (disch := omega) only [zup_ne]); exact hX4 i hi s hs), (by intro k hk; (try simp (disch := omega) only [zup_ne]); exact hX5 k hk), (by intro t ht; (try simp (disch := omega) only [zup_ne]); exact hX6 t ht)⟩, (by simp (disch := omega) only [CA, zup_ne, true_and, and_true]; exact hA), ⟨(by intro k hk; (try simp (disch := omega) only [zup_ne]); exact hB1 k hk), ?_⟩, ⟨(by intro i hi f hf; (try simp (disch := omega) only [zup_ne]); exact h3 i hi f hf), (by intro i hi; (try simp (disch := omega) only [zup_ne]); exact hRd i hi), (by intro i hi s hs f hf; (try simp (disch := omega) only [zup_ne]); exact hSt i hi s hs f hf), (by intro i hi hi3; exact ⟨by (try simp (disch := omega) only [zup_ne]); exact (hFr i hi hi3).1, fun s hs f hf => by (try simp (disch := omega) only [zup_ne]); exact (hFr i hi hi3).2 s hs f hf⟩), (by intro i hi; (try simp (disch := omega) only [zup_ne]); exact hLd i hi)⟩, ⟨(by intro k hk f hf; (try simp (disch := omega) only [zup_ne]); exact hK k hk f hf), (by intro k hk hk8; exact ⟨by (try simp (disch := omega) only [zup_ne]); exact (hKf k hk hk8).1, fun f hf hf7 => by (try simp (disch := omega) only [zup_ne]); exact (hKf k hk hk8).2 f hf hf7⟩)⟩, (by intro t ht; have hpt := hP.1 t (by omega); exact ⟨fun f hf => by (try simp (disch := omega) only [zup_ne]); exact (hTu t ht).1 f hf, by (try simp (disch := omega) only [zup_ne]); exact (hTu t ht).2⟩), hP⟩
  · intro k hk
    by_cases e : k = j
    · rw [zup_eq (by omega)]; exact hy
    · rw [zup_ne (by omega)]; exact hX2 k hk
  · intro k hk
    by_cases e : k = j
    · rw [zup_eq rfl, zup_eq e, zup_eq (by omega)]
    · rw [zup_eq rfl, zup_ne e, zup_ne (by omega)]; exact hB2 k hk
theorem CR_keep {G : Nat → Nat → Int32} {p : Nat → Nat} {r : Nat → Int32} {nr nk n td a b : Nat} {y : Int32} (hR : CR G p r nr nk n td) (ha : a < nr) (hb3 : b < 3) (hy : 0 ≤ y) : CR (zup G (8 + 5 * a + b) (zup (G (8 + 5 * a + b)) 1 y)) p (zup r (221 + 20 * a + 5 + 5 * b + 1) y) nr nk n td := by
  obtain ⟨hI, hX, hA, ⟨hB1, hB2⟩, ⟨h3, hRd, hSt, hFr, hLd⟩, ⟨hK, hKf⟩, hTu, hP⟩ := id hR
  obtain ⟨hX1, hX2, hX3, hX4, hX5, hX6⟩ := id hX
  have hb := hI.2.2.2.2.1
  refine ⟨RI_up hI (by omega), ⟨(by intro k hk; (try simp (disch := omega) only [zup_ne]); exact hX1 k hk), (by intro k hk; (try simp (disch := omega) only [zup_ne]); exact hX2 k hk), (by intro i hi; obtain ⟨q, q1, q2, q3⟩ := hX3 i hi; exact ⟨q, q1, by (try simp (disch := omega) only [zup_ne]); exact q2, by first | exact q3 | (rw [kO_congr (r' := r) (fun k hk => by simp (disch := omega) only [zup_ne])]; exact q3)⟩), ?_, (by intro k hk; (try simp (disch := omega) only [zup_ne]); exact hX5 k hk), (by intro t ht; (try simp (disch := omega) only [zup_ne]); exact hX6 t ht)⟩, (by simp (disch := omega) only [CA, zup_ne, true_and, and_true]; exact hA), ⟨(by intro k hk; (try simp (disch := omega) only [zup_ne]); exact hB1 k hk), (by intro k hk; (try simp (disch := omega) only [zup_ne]); exact hB2 k hk)⟩, ⟨(by intro i hi f hf; (try simp (disch := omega) only [zup_ne]); exact h3 i hi f hf), (by intro i hi; (try simp (disch := omega) only [zup_ne]); exact hRd i hi), ?_, (by intro i hi hi3; exact ⟨by (try simp (disch := omega) only [zup_ne]); exact (hFr i hi hi3).1, fun s hs f hf => by (try simp (disch := omega) only [zup_ne]); exact (hFr i hi hi3).2 s hs f hf⟩), (by intro i hi; (try simp (disch := omega) only [zup_ne]); exact hLd i hi)⟩, ⟨(by intro k hk f hf; (try simp (disch := omega) only [zup_ne]); exact hK k hk f hf), (by intro k hk hk8; exact ⟨by (try simp (disch := omega) only [zup_ne]); exact (hKf k hk hk8).1, fun f hf hf7 => by (try simp (disch := omega) only [zup_ne]); exact (hKf k hk hk8).2 f hf hf7⟩)⟩, (by intro t ht; have hpt := hP.1 t (by omega); exact ⟨fun f hf => by (try simp (disch := omega) only [zup_ne]); exact (hTu t ht).1 f hf, by (try simp (disch := omega) only [zup_ne]); exact (hTu t ht).2⟩), hP⟩
  · intro i hi s hs
    by_cases e : i = a ∧ s = b
    · rw [zup_eq (by omega)]; exact hy
    · rw [zup_ne (by omega)]; exact hX4 i hi s hs
  · intro i hi s hs f hf
    by_cases e : i = a ∧ s = b
    · obtain ⟨rfl, rfl⟩ := e
      rw [zup_eq rfl]
      by_cases ef : f = 1
      · rw [zup_eq ef, zup_eq (by omega)]
      · rw [zup_ne ef, zup_ne (by omega)]; exact hSt i hi s hs f hf
    · rw [zup_ne (by omega), zup_ne (by omega)]; exact hSt i hi s hs f hf
theorem kO_none {r : Nat → Int32} {x : Int32} {n : Nat} (h : ∀ k, k < n → ¬ r (281 + 7 * k + 1) = x) : kO r x n = 0 := by
  rcases Nat.eq_zero_or_pos (kO r x n) with e | e
  · exact e
  · obtain ⟨k, hk, q⟩ := ct_zero.mp e
    exact absurd q (h k hk)
theorem kO_s (r : Nat → Int32) (x : Int32) (n : Nat) : kO r x (n + 1) = kO r x n + if r (281 + 7 * n + 1) = x then 1 else 0 := rfl
theorem TW_mono {r : Nat → Int32} {t nr nk nr' nk' : Nat} (h1 : nr ≤ nr') (h2 : nk ≤ nk') (h : TW r t nr nk) : TW r t nr' nk' := by
  obtain ⟨⟨i, hi, e⟩, hd, hc, hg, hk⟩ := h
  exact ⟨⟨i, by omega, e⟩, hd, hc.imp id (fun ⟨k, q, e⟩ => ⟨k, by omega, e⟩), hg.imp id (fun ⟨k, q, e⟩ => ⟨k, by omega, e⟩), hk⟩
theorem nIinj {a b : Nat} (ha : a < 2147483648) (hb : b < 2147483648) (h : nI a = nI b) : a = b := by rw [nI_eq ha hb] at h; exact h
theorem rkN_at {r : Nat → Int32} {nr k : Nat} {a b c : Int32} (h : k ≠ 1) (h2 : k < 221 + 20 * nr ∨ 221 + 20 * nr + 20 ≤ k) : rkN r nr a b c k = r k := by
  unfold rkN; simp (disch := omega) only [zup_ne, clr_at]
theorem CR_rock {G : Nat → Nat → Int32} {p : Nat → Nat} {r : Nat → Int32} {nr nk n td q : Nat} {a b : Int32} (hR : CR G p r nr nk n td) (hn : nr < 3) (hq : q ≤ 3) :
    CR (zup (zup G (6 + 5 * nr) (zup (zup (zup (G (6 + 5 * nr)) 0 a) 1 b) 2 (nI q))) 0 (zup (G 0) 4 (nI (nr + 1)))) p (rkN r nr a b (nI q)) (nr + 1) nk n td := by
  obtain ⟨hI, hX, hA, ⟨hB1, hB2⟩, ⟨h3, hRd, hSt, hFr, hLd⟩, ⟨hK, hKf⟩, hTu, hP⟩ := id hR
  obtain ⟨i1, i2, i3, i0, hb, hTW, hKP⟩ := id hI
  obtain ⟨hX1, hX2, hX3, hX4, hX5, hX6⟩ := id hX
  obtain ⟨c0, c1, c2, c3, c4, c5, c6⟩ := id hA
  have hko : ∀ x m, m ≤ 8 → kO (rkN r nr a b (nI q)) x m = kO r x m := fun x m hm => kO_congr fun k hk => rkN_at (by omega) (by omega)
  refine ⟨⟨?_, ?_, ?_, ?_, ⟨hb.1, hb.2.1, by omega, hb.2.2.2⟩, ?_, ?_⟩, ⟨?_, ?_, ?_, ?_, ?_, ?_⟩, ?_, ⟨?_, ?_⟩, ⟨?_, ?_, ?_, ?_, ?_⟩, ⟨?_, ?_⟩, ?_, hP⟩
  · unfold rkN; rw [zup_eq rfl]
  · rw [rkN_at (by omega) (by omega)]; exact i2
  · rw [rkN_at (by omega) (by omega)]; exact i3
  · rw [rkN_at (by omega) (by omega)]; exact i0
  · exact fun u hu => TW_mono (by omega) (by omega) (TWc (fun f hf => rkN_at (by omega) (by omega)) (hTW u hu))
  · intro k hk
    rw [rkN_at (by omega) (by omega)]
    exact (hKP k hk).imp id fun ⟨i, q1, q2⟩ => ⟨i, by omega, q2⟩
  · intro k hk; rw [rkN_at (by omega) (by omega)]; exact hX1 k hk
  · intro k hk; rw [rkN_at (by omega) (by omega)]; exact hX2 k hk
  · intro i hi
    rw [hko _ _ hb.2.2.2]
    by_cases e : i = nr
    · subst e
      refine ⟨q, hq, ?_, ?_⟩
      · unfold rkN; simp (disch := omega) only [zup_eq, zup_ne]
      · rw [kO_none (fun k hk e => ?_)]
        · exact Nat.zero_le _
        · rcases hKP k hk with h9 | ⟨i', h1, h2⟩
          · rw [h9, nI_m9' (by omega)] at e; exact e
          · rw [h2] at e; have := nIinj (by omega) (by omega) e; omega
    · rw [rkN_at (by omega) (by omega)]
      exact hX3 i (by omega)
  · intro i hi s hs
    by_cases e : i = nr
    · subst e
      unfold rkN
      simp (disch := omega) only [zup_ne, clr_in]
      decide
    · rw [rkN_at (by omega) (by omega)]
      exact hX4 i (by omega) s hs
  · intro k hk; rw [rkN_at (by omega) (by omega), rkN_at (by omega) (by omega), rkN_at (by omega) (by omega)]; exact hX5 k hk
  · intro t ht; rw [rkN_at (by omega) (by omega), rkN_at (by omega) (by omega), rkN_at (by omega) (by omega)]; exact hX6 t ht
  · unfold CA
    simp (disch := omega) only [zup_eq, zup_ne, rkN_at]
    refine ⟨c0, c1, c2, c3, ?_, c5, c6⟩
    unfold rkN; rw [zup_eq rfl]
  · intro k hk; simp (disch := omega) only [zup_ne, rkN_at]; exact hB1 k hk
  · intro k hk; simp (disch := omega) only [zup_ne, rkN_at]; exact hB2 k hk
  · intro i hi f hf
    by_cases e : i = nr
    · subst e
      rw [zup_ne (by omega), zup_eq rfl]
      unfold rkN
      rcases (show f = 0 ∨ f = 1 ∨ f = 2 by omega) with rfl | rfl | rfl <;> simp (disch := omega) only [zup_eq, zup_ne]
    · rw [zup_ne (by omega), zup_ne (by omega), rkN_at (by omega) (by omega)]
      exact h3 i (by omega) f hf
  · intro i hi
    by_cases e : i = nr
    · subst e
      rw [zup_ne (by omega), zup_eq rfl]
      unfold rkN
      simp (disch := omega) only [zup_eq, zup_ne, clr_in]
      exact (hFr i (by omega) hn).1
    · rw [zup_ne (by omega), zup_ne (by omega), rkN_at (by omega) (by omega)]
      exact hRd i (by omega)
  · intro i hi s hs f hf
    by_cases e : i = nr
    · subst e
      rw [zup_ne (by omega), zup_ne (by omega)]
      unfold rkN
      simp (disch := omega) only [zup_eq, zup_ne, clr_in]
      exact (hFr i (by omega) hn).2 s hs f hf
    · rw [zup_ne (by omega), zup_ne (by omega), rkN_at (by omega) (by omega)]
      exact hSt i (by omega) s hs f hf
  · intro i hi hi3
    refine ⟨?_, fun s hs f hf => ?_⟩
    · rw [zup_ne (by omega), zup_ne (by omega)]; exact (hFr i (by omega) hi3).1
    · rw [zup_ne (by omega), zup_ne (by omega)]; exact (hFr i (by omega) hi3).2 s hs f hf
  · intro i hi
    by_cases e : i = nr
    · subst e
      rw [zup_ne (by omega), zup_eq rfl]
      simp (disch := omega) only [zup_ne]
      exact hLd i hi
    · rw [zup_ne (by omega), zup_ne (by omega)]; exact hLd i hi
  · intro k hk f hf
    rw [zup_ne (by omega), zup_ne (by omega), rkN_at (by omega) (by omega)]
    exact hK k hk f hf
  · intro k hk hk8; exact ⟨by (try simp (disch := omega) only [zup_ne]); exact (hKf k hk hk8).1, fun f hf hf7 => by (try simp (disch := omega) only [zup_ne]); exact (hKf k hk hk8).2 f hf hf7⟩
  · intro t ht
    have hpt := hP.1 t (by omega)
    refine ⟨fun f hf => ?_, ?_⟩
    · rw [zup_ne (by omega), zup_ne (by omega), rkN_at (by omega) (by omega)]; exact (hTu t ht).1 f hf
    · rw [zup_ne (by omega), zup_ne (by omega)]; exact (hTu t ht).2
theorem kpN_at {r : Nat → Int32} {nk k : Nat} {a : Int32} (h : k ≠ 2) (h2 : k < 281 + 7 * nk ∨ 281 + 7 * nk + 7 ≤ k) : kpN r nk a k = r k := by
  unfold kpN; simp (disch := omega) only [zup_ne, clr_at]
theorem CR_come {G : Nat → Nat → Int32} {p : Nat → Nat} {r : Nat → Int32} {nr nk n td q : Nat} (hR : CR G p r nr nk n td) (hn : nk < 8) (hq : q < 3) :
    CR (zup (zup G (21 + nk) (zup (G (21 + nk)) 0 (nI q))) 0 (zup (G 0) 5 (nI (nk + 1)))) p (kpN r nk (nI q)) nr (nk + 1) n td := by
  obtain ⟨hI, hX, hA, ⟨hB1, hB2⟩, ⟨h3, hRd, hSt, hFr, hLd⟩, ⟨hK, hKf⟩, hTu, hP⟩ := id hR
  obtain ⟨i1, i2, i3, i0, hb, hTW, hKP⟩ := id hI
  obtain ⟨hX1, hX2, hX3, hX4, hX5, hX6⟩ := id hX
  obtain ⟨c0, c1, c2, c3, c4, c5, c6⟩ := id hA
  have hpl : kpN r nk (nI q) (281 + 7 * nk + 1) = -9 := by unfold kpN; rw [zup_eq rfl]
  have hko : ∀ x, kO (kpN r nk (nI q)) x nk = kO r x nk := fun x => kO_congr fun k hk => kpN_at (by omega) (by omega)
  refine ⟨⟨?_, ?_, ?_, ?_, ⟨hb.1, hb.2.1, hb.2.2.1, by omega⟩, ?_, ?_⟩, ⟨?_, ?_, ?_, ?_, ?_, ?_⟩, ?_, ⟨?_, ?_⟩, ⟨?_, ?_, ?_, ?_, ?_⟩, ⟨?_, ?_⟩, ?_, hP⟩
  · rw [kpN_at (by omega) (by omega)]; exact i1
  · unfold kpN; simp (disch := omega) only [zup_eq, zup_ne, clr_at]
  · rw [kpN_at (by omega) (by omega)]; exact i3
  · rw [kpN_at (by omega) (by omega)]; exact i0
  · exact fun u hu => TW_mono (by omega) (by omega) (TWc (fun f hf => kpN_at (by omega) (by omega)) (hTW u hu))
  · intro k hk
    by_cases e : k = nk
    · subst e; exact Or.inl hpl
    · rw [kpN_at (by omega) (by omega)]; exact hKP k (by omega)
  · intro k hk; rw [kpN_at (by omega) (by omega)]; exact hX1 k hk
  · intro k hk; rw [kpN_at (by omega) (by omega)]; exact hX2 k hk
  · intro i hi
    rw [kpN_at (by omega) (by omega), kO_s, hko, hpl, if_neg (by rw [nI_m9' (by omega)]; exact fun q => q)]
    exact hX3 i hi
  · intro i hi s hs; rw [kpN_at (by omega) (by omega)]; exact hX4 i hi s hs
  · intro k hk
    by_cases e : k = nk
    · subst e
      unfold kpN
      simp (disch := omega) only [zup_eq, zup_ne, clr_in]
      exact ⟨⟨q, hq, rfl⟩, ⟨0, Nat.zero_le _, rfl⟩, ⟨0, Nat.zero_le _, rfl⟩⟩
    · rw [kpN_at (by omega) (by omega), kpN_at (by omega) (by omega), kpN_at (by omega) (by omega)]; exact hX5 k (by omega)
  · intro t ht; rw [kpN_at (by omega) (by omega), kpN_at (by omega) (by omega), kpN_at (by omega) (by omega)]
    exact ⟨(hX6 t ht).1, fun e => (hX6 t ht).2 e |>.imp fun k hk => ⟨by omega, hk.2⟩⟩
  · unfold CA
    simp (disch := omega) only [zup_eq, zup_ne, kpN_at]
    refine ⟨c0, c1, c2, c3, c4, ?_, c6⟩
    unfold kpN; simp (disch := omega) only [zup_eq, zup_ne, clr_at]
  · intro k hk; simp (disch := omega) only [zup_ne, kpN_at]; exact hB1 k hk
  · intro k hk; simp (disch := omega) only [zup_ne, kpN_at]; exact hB2 k hk
  · intro i hi f hf; simp (disch := omega) only [zup_ne, kpN_at]; exact h3 i hi f hf
  · intro i hi; simp (disch := omega) only [zup_ne, kpN_at]; exact hRd i hi
  · intro i hi s hs f hf; simp (disch := omega) only [zup_ne, kpN_at]; exact hSt i hi s hs f hf
  · intro i hi hi3; exact ⟨by (try simp (disch := omega) only [zup_ne]); exact (hFr i hi hi3).1, fun s hs f hf => by (try simp (disch := omega) only [zup_ne]); exact (hFr i hi hi3).2 s hs f hf⟩
  · intro i hi; (try simp (disch := omega) only [zup_ne]); exact hLd i hi
  · intro k hk f hf
    by_cases e : k = nk
    · subst e
      rw [zup_ne (by omega), zup_eq rfl]
      unfold kpN
      rcases (show f = 0 ∨ f = 1 ∨ (2 ≤ f ∧ f < 7) by omega) with rfl | rfl | ⟨f2, f7⟩
      · simp (disch := omega) only [zup_eq, zup_ne]
      · simp (disch := omega) only [zup_eq, zup_ne]; exact (hKf k (by omega) hn).1
      · simp (disch := omega) only [zup_ne, clr_in]; exact (hKf k (by omega) hn).2 f f2 f7
    · rw [zup_ne (by omega), zup_ne (by omega), kpN_at (by omega) (by omega)]
      exact hK k (by omega) f hf
  · intro k hk hk8
    refine ⟨?_, fun f hf hf7 => ?_⟩
    · rw [zup_ne (by omega), zup_ne (by omega)]; exact (hKf k (by omega) hk8).1
    · rw [zup_ne (by omega), zup_ne (by omega)]; exact (hKf k (by omega) hk8).2 f hf hf7
  · intro t ht
    have hpt := hP.1 t (by omega)
    refine ⟨fun f hf => ?_, ?_⟩
    · rw [zup_ne (by omega), zup_ne (by omega), kpN_at (by omega) (by omega)]; exact (hTu t ht).1 f hf
    · rw [zup_ne (by omega), zup_ne (by omega)]; exact (hTu t ht).2
theorem plN_at {r : Nat → Int32} {n k : Nat} {kind a d c g s x : Int32} (h : k ≠ 3) (h2 : k < 337 + 8 * n ∨ 337 + 8 * n + 8 ≤ k) : plN r n kind a d c g s x k = r k := by
  unfold plN; simp (disch := omega) only [zup_ne]
theorem CR_plan {G G' : Nat → Nat → Int32} {p : Nat → Nat} {r : Nat → Int32} {nr nk n td : Nat} {kind a d c g s x : Int32} (hR : CR G p r nr nk n td) (hn : n < 12)
    (hG : ∀ j, j ≠ 0 → j ≠ 29 + p n → G' j = G j) (h0 : ∀ f, f ≠ 6 → G' 0 f = G 0 f) (h6 : G' 0 6 = nI (n + 1))
    (hf : G' (29 + p n) 0 = kind ∧ G' (29 + p n) 1 = a ∧ G' (29 + p n) 2 = d ∧ G' (29 + p n) 3 = c ∧ G' (29 + p n) 4 = g ∧ G' (29 + p n) 5 = s ∧ G' (29 + p n) 6 = x ∧ G' (29 + p n) 7 = -9)
    (hT : TW (plN r n kind a d c g s x) n nr nk) (hd : ∃ e, td ≤ e ∧ e < 200 ∧ d = nI e) (hg : kind = nI 0 → ∃ k, k < nk ∧ g = nI k) :
    CR G' p (plN r n kind a d c g s x) nr nk (n + 1) td := by
  obtain ⟨hI, hX, hA, ⟨hB1, hB2⟩, ⟨h3, hRd, hSt, hFr, hLd⟩, ⟨hK, hKf⟩, hTu, hP⟩ := id hR
  obtain ⟨i1, i2, i3, i0, hb, hTW, hKP⟩ := id hI
  obtain ⟨hX1, hX2, hX3, hX4, hX5, hX6⟩ := id hX
  obtain ⟨c0, c1, c2, c3, c4, c5, c6⟩ := id hA
  obtain ⟨f0, f1, f2, f3, f4, f5, f6, f7⟩ := hf
  have hpn := hP.1 n hn
  have hat : ∀ k, k ≠ 3 → k < 337 → plN r n kind a d c g s x k = r k := fun k q1 q2 => plN_at q1 (by omega)
  have hko : ∀ y, kO (plN r n kind a d c g s x) y nk = kO r y nk := fun y => kO_congr fun k hk => hat _ (by omega) (by omega)
  refine ⟨⟨?_, ?_, ?_, ?_, ⟨hb.1, by omega, hb.2.2⟩, ?_, ?_⟩, ⟨?_, ?_, ?_, ?_, ?_, ?_⟩, ?_, ⟨?_, ?_⟩, ⟨?_, ?_, ?_, ?_, ?_⟩, ⟨?_, ?_⟩, ?_, hP⟩
  · rw [hat _ (by omega) (by omega)]; exact i1
  · rw [hat _ (by omega) (by omega)]; exact i2
  · unfold plN; simp (disch := omega) only [zup_eq, zup_ne]
  · rw [hat _ (by omega) (by omega)]; exact i0
  · intro u hu
    by_cases e : u = n
    · subst e; exact hT
    · exact TWc (fun f hf => plN_at (by omega) (by omega)) (hTW u (by omega))
  · exact KP_of (fun k hk => hat _ (by omega) (by omega)) hKP
  · intro k hk; rw [hat _ (by omega) (by omega)]; exact hX1 k hk
  · intro k hk; rw [hat _ (by omega) (by omega)]; exact hX2 k hk
  · intro i hi; rw [hat _ (by omega) (by omega), hko]; exact hX3 i hi
  · intro i hi s hs; rw [hat _ (by omega) (by omega)]; exact hX4 i hi s hs
  · intro k hk; rw [hat _ (by omega) (by omega), hat _ (by omega) (by omega), hat _ (by omega) (by omega)]; exact hX5 k hk
  · intro t ht
    by_cases e : t = n
    · subst e
      unfold plN
      simp (disch := omega) only [zup_eq, zup_ne]
      exact ⟨hd, hg⟩
    · rw [plN_at (by omega) (by omega), plN_at (by omega) (by omega), plN_at (by omega) (by omega)]; exact hX6 t (by omega)
  · unfold CA
    rw [h0 _ (by omega), h0 _ (by omega), h0 _ (by omega), h0 _ (by omega), h0 _ (by omega), h0 _ (by omega), h6]
    simp (disch := omega) only [hat]
    refine ⟨c0, c1, c2, c3, c4, c5, ?_⟩
    unfold plN; simp (disch := omega) only [zup_eq, zup_ne]
  · intro k hk; rw [hG _ (by omega) (by omega), hat _ (by omega) (by omega)]; exact hB1 k hk
  · intro k hk; rw [hG _ (by omega) (by omega), hat _ (by omega) (by omega)]; exact hB2 k hk
  · intro i hi f hf; rw [hG _ (by omega) (by omega), hat _ (by omega) (by omega)]; exact h3 i hi f hf
  · intro i hi; rw [hG _ (by omega) (by omega), hat _ (by omega) (by omega)]; exact hRd i hi
  · intro i hi s hs f hf; rw [hG _ (by omega) (by omega), hat _ (by omega) (by omega)]; exact hSt i hi s hs f hf
  · intro i hi hi3; refine ⟨?_, fun s hs f hf => ?_⟩
    · rw [hG _ (by omega) (by omega)]; exact (hFr i hi hi3).1
    · rw [hG _ (by omega) (by omega)]; exact (hFr i hi hi3).2 s hs f hf
  · intro i hi; rw [hG _ (by omega) (by omega)]; exact hLd i hi
  · intro k hk f hf; rw [hG _ (by omega) (by omega), hat _ (by omega) (by omega)]; exact hK k hk f hf
  · intro k hk hk8; refine ⟨?_, fun f hf hf7 => ?_⟩
    · rw [hG _ (by omega) (by omega)]; exact (hKf k hk hk8).1
    · rw [hG _ (by omega) (by omega)]; exact (hKf k hk hk8).2 f hf hf7
  · intro t ht
    by_cases e : t = n
    · subst e
      refine ⟨fun f hf => ?_, f7⟩
      unfold plN
      rcases (show f = 0 ∨ f = 1 ∨ f = 2 ∨ f = 3 ∨ f = 4 ∨ f = 5 ∨ f = 6 by omega) with rfl | rfl | rfl | rfl | rfl | rfl | rfl <;> simp (disch := omega) only [zup_eq, zup_ne] <;> assumption
    · have hne : p t ≠ p n := fun q => e (hP.2 t n (by omega) hn q)
      refine ⟨fun f hf => ?_, ?_⟩
      · rw [hG _ (by omega) (by omega), plN_at (by omega) (by omega)]; exact (hTu t (by omega)).1 f hf
      · rw [hG _ (by omega) (by omega)]; exact (hTu t (by omega)).2
/-- the turns' places behind a removal -/
def rmP (p : Nat → Nat) (t n : Nat) : Nat → Nat := fun k => if t ≤ k ∧ k < n - 1 then p (k + 1) else if k = n - 1 then p t else p k
theorem PM_rm {p : Nat → Nat} {t n : Nat} (hP : PM p) (ht : t < n) (hn : n ≤ 12) : PM (rmP p t n) := by
  have key : ∀ k, k < 12 → ∃ j, j < 12 ∧ rmP p t n k = p j ∧ (j = if t ≤ k ∧ k < n - 1 then k + 1 else if k = n - 1 then t else k) := by
    intro k hk
    unfold rmP
    by_cases h1 : t ≤ k ∧ k < n - 1
    · exact ⟨k + 1, by omega, by rw [if_pos h1], by rw [if_pos h1]⟩
    · by_cases h2 : k = n - 1
      · exact ⟨t, by omega, by rw [if_neg h1, if_pos h2], by rw [if_neg h1, if_pos h2]⟩
      · exact ⟨k, hk, by rw [if_neg h1, if_neg h2], by rw [if_neg h1, if_neg h2]⟩
  refine ⟨fun k hk => ?_, fun a b ha hb e => ?_⟩
  · obtain ⟨j, q1, q2, -⟩ := key k hk
    rw [q2]; exact hP.1 j q1
  · obtain ⟨j, q1, q2, q3⟩ := key a ha
    obtain ⟨j', s1, s2, s3⟩ := key b hb
    rw [q2, s2] at e
    have e2 := hP.2 j j' q1 s1 e
    rw [q3, s3] at e2
    split at e2 <;> split at e2 <;> (try split at e2) <;> (try split at e2) <;> omega
theorem CR_cancel {G : Nat → Nat → Int32} {p : Nat → Nat} {r : Nat → Int32} {nr nk n td t : Nat} (hR : CR G p r nr nk n td) (ht : t < n) :
    CR (zup G 0 (zup (G 0) 6 (nI (n - 1)))) (rmP p t n) (rmT r t n) nr nk (n - 1) td := by
  obtain ⟨hI, hX, hA, ⟨hB1, hB2⟩, ⟨h3, hRd, hSt, hFr, hLd⟩, ⟨hK, hKf⟩, hTu, hP⟩ := id hR
  obtain ⟨i1, i2, i3, i0, hb, hTW, hKP⟩ := id hI
  obtain ⟨hX1, hX2, hX3, hX4, hX5, hX6⟩ := id hX
  obtain ⟨c0, c1, c2, c3, c4, c5, c6⟩ := id hA
  have hat : ∀ k, k ≠ 3 → k < 337 → rmT r t n k = r k := fun k q1 q2 => rmT_at q1 (by omega)
  have hko : ∀ y, kO (rmT r t n) y nk = kO r y nk := fun y => kO_congr fun k hk => hat _ (by omega) (by omega)
  have hsh : ∀ u, u < n - 1 → ∃ v, v < n ∧ rmP p t n u = p v ∧ ∀ f, f < 8 → rmT r t n (337 + 8 * u + f) = r (337 + 8 * v + f) := by
    intro u hu
    by_cases h1 : t ≤ u
    · exact ⟨u + 1, by omega, by unfold rmP; rw [if_pos ⟨h1, hu⟩], fun f hf => rmT_sh hf h1 hu⟩
    · exact ⟨u, by omega, by unfold rmP; rw [if_neg (by omega), if_neg (by omega)], fun f hf => rmT_at (by omega) (by omega)⟩
  refine ⟨⟨?_, ?_, ?_, ?_, ⟨hb.1, by omega, hb.2.2⟩, ?_, ?_⟩, ⟨?_, ?_, ?_, ?_, ?_, ?_⟩, ?_, ⟨?_, ?_⟩, ⟨?_, ?_, ?_, ?_, ?_⟩, ⟨?_, ?_⟩, ?_, PM_rm hP ht hb.2.1⟩
  · rw [hat _ (by omega) (by omega)]; exact i1
  · rw [hat _ (by omega) (by omega)]; exact i2
  · exact rmT_3
  · rw [hat _ (by omega) (by omega)]; exact i0
  · exact fun u hu => TW_rmT hTW hu
  · exact KP_of (fun k hk => hat _ (by omega) (by omega)) hKP
  · intro k hk; rw [hat _ (by omega) (by omega)]; exact hX1 k hk
  · intro k hk; rw [hat _ (by omega) (by omega)]; exact hX2 k hk
  · intro i hi; rw [hat _ (by omega) (by omega), hko]; exact hX3 i hi
  · intro i hi s hs; rw [hat _ (by omega) (by omega)]; exact hX4 i hi s hs
  · intro k hk; rw [hat _ (by omega) (by omega), hat _ (by omega) (by omega), hat _ (by omega) (by omega)]; exact hX5 k hk
  · intro u hu
    obtain ⟨v, v1, -, v3⟩ := hsh u hu
    rw [v3 2 (by omega), v3 0 (by omega), v3 4 (by omega)]
    exact hX6 v v1
  · unfold CA
    simp (disch := omega) only [zup_eq, zup_ne, hat, rmT_3, and_true]
    exact ⟨c0, c1, c2, c3, c4, c5⟩
  · intro k hk; rw [zup_ne (by omega), hat _ (by omega) (by omega)]; exact hB1 k hk
  · intro k hk; rw [zup_ne (by omega), hat _ (by omega) (by omega)]; exact hB2 k hk
  · intro i hi f hf; rw [zup_ne (by omega), hat _ (by omega) (by omega)]; exact h3 i hi f hf
  · intro i hi; rw [zup_ne (by omega), hat _ (by omega) (by omega)]; exact hRd i hi
  · intro i hi s hs f hf; rw [zup_ne (by omega), hat _ (by omega) (by omega)]; exact hSt i hi s hs f hf
  · intro i hi hi3; exact ⟨by (try simp (disch := omega) only [zup_ne]); exact (hFr i hi hi3).1, fun s hs f hf => by (try simp (disch := omega) only [zup_ne]); exact (hFr i hi hi3).2 s hs f hf⟩
  · intro i hi; (try simp (disch := omega) only [zup_ne]); exact hLd i hi
  · intro k hk f hf; rw [zup_ne (by omega), hat _ (by omega) (by omega)]; exact hK k hk f hf
  · intro k hk hk8; exact ⟨by (try simp (disch := omega) only [zup_ne]); exact (hKf k hk hk8).1, fun f hf hf7 => by (try simp (disch := omega) only [zup_ne]); exact (hKf k hk hk8).2 f hf hf7⟩
  · intro u hu
    obtain ⟨v, v1, v2, v3⟩ := hsh u hu
    rw [v2]
    have hpv := hP.1 v (by omega)
    refine ⟨fun f hf => ?_, ?_⟩
    · rw [zup_ne (by omega), v3 f (by omega)]; exact (hTu v v1).1 f hf
    · rw [zup_ne (by omega)]; exact (hTu v v1).2
theorem CR_exch {G : Nat → Nat → Int32} {p : Nat → Nat} {r : Nat → Int32} {nr nk n td a b : Nat} (hR : CR G p r nr nk n td) (ha : a < n) (hb2 : b < n) (hab : a ≠ b) (ka : r (337 + 8 * a + 0) = nI 0) (kb : r (337 + 8 * b + 0) = nI 0) :
    CR (zup (zup G (29 + p a) (zup (G (29 + p a)) 4 (r (337 + 8 * b + 4)))) (29 + p b) (zup (G (29 + p b)) 4 (r (337 + 8 * a + 4)))) p (zup (zup r (337 + 8 * a + 4) (r (337 + 8 * b + 4))) (337 + 8 * b + 4) (r (337 + 8 * a + 4))) nr nk n td := by
  obtain ⟨hI, hX, hA, ⟨hB1, hB2⟩, ⟨h3, hRd, hSt, hFr, hLd⟩, ⟨hK, hKf⟩, hTu, hP⟩ := id hR
  obtain ⟨i1, i2, i3, i0, hb, hTW, hKP⟩ := id hI
  obtain ⟨hX1, hX2, hX3, hX4, hX5, hX6⟩ := id hX
  have hpa := hP.1 a (by omega)
  have hpb := hP.1 b (by omega)
  have hpab : p a ≠ p b := fun q => hab (hP.2 a b (by omega) (by omega) q)
  have hTa := hTW a ha
  have hTb := hTW b hb2
  refine ⟨⟨?_, ?_, ?_, ?_, hb, ?_, ?_⟩, ⟨(by intro k hk; (try simp (disch := omega) only [zup_ne]); exact hX1 k hk), (by intro k hk; (try simp (disch := omega) only [zup_ne]); exact hX2 k hk), (by intro i hi; obtain ⟨q, q1, q2, q3⟩ := hX3 i hi; exact ⟨q, q1, by (try simp (disch := omega) only [zup_ne]); exact q2, by first | exact q3 | (rw [kO_congr (r' := r) (fun k hk => by simp (disch := omega) only [zup_ne])]; exact q3)⟩), (by intro i hi s hs; (try simp (disch := omega) only [zup_ne]); exact hX4 i hi s hs), (by intro k hk; (try simp (disch := omega) only [zup_ne]); exact hX5 k hk), ?_⟩, (by simp (disch := omega) only [CA, zup_ne, true_and, and_true]; exact hA), ⟨(by intro k hk; (try simp (disch := omega) only [zup_ne]); exact hB1 k hk), (by intro k hk; (try simp (disch := omega) only [zup_ne]); exact hB2 k hk)⟩, ⟨(by intro i hi f hf; (try simp (disch := omega) only [zup_ne]); exact h3 i hi f hf), (by intro i hi; (try simp (disch := omega) only [zup_ne]); exact hRd i hi), (by intro i hi s hs f hf; (try simp (disch := omega) only [zup_ne]); exact hSt i hi s hs f hf), (by intro i hi hi3; exact ⟨by (try simp (disch := omega) only [zup_ne]); exact (hFr i hi hi3).1, fun s hs f hf => by (try simp (disch := omega) only [zup_ne]); exact (hFr i hi hi3).2 s hs f hf⟩), (by intro i hi; (try simp (disch := omega) only [zup_ne]); exact hLd i hi)⟩, ⟨(by intro k hk f hf; (try simp (disch := omega) only [zup_ne]); exact hK k hk f hf), (by intro k hk hk8; exact ⟨by (try simp (disch := omega) only [zup_ne]); exact (hKf k hk hk8).1, fun f hf hf7 => by (try simp (disch := omega) only [zup_ne]); exact (hKf k hk hk8).2 f hf hf7⟩)⟩, ?_, hP⟩
  · rw [zup_ne (by omega), zup_ne (by omega)]; exact i1
  · rw [zup_ne (by omega), zup_ne (by omega)]; exact i2
  · rw [zup_ne (by omega), zup_ne (by omega)]; exact i3
  · rw [zup_ne (by omega), zup_ne (by omega)]; exact i0
  · intro u hu
    by_cases e1 : u = a
    · subst e1
      obtain ⟨q1, q2, q3, q4, q5⟩ := hTa
      unfold TW
      simp (disch := omega) only [zup_eq, zup_ne]
      refine ⟨q1, q2, q3, hTb.2.2.2.1, Or.inr ?_⟩
      rcases q5 with ⟨q5, -⟩ | q5
      · rw [ka] at q5; exact absurd (nIinj (by omega) (by omega) q5) (by omega)
      · exact q5
    · by_cases e2 : u = b
      · subst e2
        obtain ⟨q1, q2, q3, q4, q5⟩ := hTb
        unfold TW
        simp (disch := omega) only [zup_eq, zup_ne]
        refine ⟨q1, q2, q3, hTa.2.2.2.1, Or.inr ?_⟩
        rcases q5 with ⟨q5, -⟩ | q5
        · rw [kb] at q5; exact absurd (nIinj (by omega) (by omega) q5) (by omega)
        · exact q5
      · exact TWc (fun f hf => by rw [zup_ne (by omega), zup_ne (by omega)]) (hTW u hu)
  · exact KP_of (fun k hk => by rw [zup_ne (by omega), zup_ne (by omega)]) hKP
  · intro u hu
    by_cases e1 : u = a
    · subst e1
      simp (disch := omega) only [zup_eq, zup_ne]
      exact ⟨(hX6 u hu).1, fun _ => (hX6 b hb2).2 kb⟩
    · by_cases e2 : u = b
      · subst e2
        simp (disch := omega) only [zup_eq, zup_ne]
        exact ⟨(hX6 u hu).1, fun _ => (hX6 a ha).2 ka⟩
      · simp (disch := omega) only [zup_ne]
        exact hX6 u hu
  · intro u hu
    by_cases e1 : u = a
    · subst e1
      refine ⟨fun f hf => ?_, ?_⟩
      · rw [zup_ne (by omega), zup_eq rfl]
        by_cases ef : f = 4
        · subst ef; rw [zup_eq rfl, zup_ne (by omega), zup_eq rfl]
        · rw [zup_ne ef, zup_ne (by omega), zup_ne (by omega)]; exact (hTu u hu).1 f hf
      · rw [zup_ne (by omega), zup_eq rfl, zup_ne (by omega)]; exact (hTu u hu).2
    · by_cases e2 : u = b
      · subst e2
        refine ⟨fun f hf => ?_, ?_⟩
        · rw [zup_eq rfl]
          by_cases ef : f = 4
          · subst ef; rw [zup_eq rfl, zup_eq rfl]
          · rw [zup_ne ef, zup_ne (by omega), zup_ne (by omega)]; exact (hTu u hu).1 f hf
        · rw [zup_eq rfl, zup_ne (by omega)]; exact (hTu u hu).2
      · have n1 : p u ≠ p a := fun q => e1 (hP.2 u a (by omega) (by omega) q)
        have n2 : p u ≠ p b := fun q => e2 (hP.2 u b (by omega) (by omega) q)
        refine ⟨fun f hf => ?_, ?_⟩
        · rw [zup_ne (by omega), zup_ne (by omega), zup_ne (by omega), zup_ne (by omega)]; exact (hTu u hu).1 f hf
        · rw [zup_ne (by omega), zup_ne (by omega)]; exact (hTu u hu).2

