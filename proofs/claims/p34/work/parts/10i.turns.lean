/-! The class: going through the turns of a day. -/
theorem and1 (x : Int32) : x &&& nI 1 = nI 0 ∨ x &&& nI 1 = nI 1 := by
  have h : (x &&& nI 1).toBitVec = x.toBitVec &&& 1#32 := rfl
  rw [BitVec.and_one_eq_setWidth_ofBool_getLsbD] at h
  cases hb : x.toBitVec.getLsbD 0 with
  | false => left; apply Int32.toBitVec_inj.1; rw [h, hb]; rfl
  | true => right; apply Int32.toBitVec_inj.1; rw [h, hb]; rfl
theorem bit_or (b : Nat) (x y : Int32) : bit b (x ||| y) ↔ bit b x ∨ bit b y := by
  unfold bit
  rw [Int32.shiftRight_or, show ((x >>> (nI b &&& 31)) ||| (y >>> (nI b &&& 31))) &&& nI 1 = ((x >>> (nI b &&& 31)) &&& nI 1) ||| ((y >>> (nI b &&& 31)) &&& nI 1) from Int32.toBitVec_inj.1 BitVec.and_or_distrib_right]
  rcases and1 (x >>> (nI b &&& 31)) with h | h <;> rcases and1 (y >>> (nI b &&& 31)) with g | g <;> rw [h, g] <;> decide
theorem MT_obj {G : Nat → Nat → Int32} {p : Nat → Nat} {r : Nat → Int32} {t n place n0 td : Nat} (h : MT G p r t n place n0 td) {u : Nat} (hu : u < n) : obj p t place u < 12 := obj_lt h.2.1 h.2.2.1 h.2.2.2.2.1 h.2.2.2.2.2 h.2.2.2.1 hu
theorem MT_ne {G : Nat → Nat → Int32} {p : Nat → Nat} {r : Nat → Int32} {t n place n0 td : Nat} (h : MT G p r t n place n0 td) {u : Nat} (hu : u < n) (ht : t < n) (hut : u ≠ t) : obj p t place u ≠ p place := fun e => hut (obj_inj h.2.1 h.2.2.1 h.2.2.2.2.1 h.2.2.2.2.2 h.2.2.2.1 hu ht (e.trans obj_t.symm))
/-- a turn is kept: its day is later than today -/
theorem MT_keep {G G' : Nat → Nat → Int32} {p : Nat → Nat} {r r' : Nat → Int32} {t n place n0 td : Nat} (h : MT G p r t n place n0 td) (ht : t < n)
    (hG : ∀ q, q < 12 → q ≠ p place → G' (29 + q) = G (29 + q)) (hr : ∀ u, u < n → u ≠ t → ∀ f, f < 8 → r' (337 + 8 * u + f) = r (337 + 8 * u + f))
    (h7 : ∀ f, f < 7 → G' (29 + p place) f = r' (337 + 8 * t + f)) (h8 : G' (29 + p place) 7 = -9) (hd : ∃ d, td < d ∧ d < 200 ∧ r' (337 + 8 * t + 2) = nI d) : MT G' (swp p place t) r' (t + 1) n (place + 1) n0 td := by
  obtain ⟨hU, hP, b1, b2, b3, b4⟩ := id h
  refine ⟨fun u hu => ?_, PM_swp hP (by omega) (by omega), by omega, by omega, by omega, b4⟩
  rw [obj_keep b1]
  by_cases e : u = t
  · subst e
    rw [obj_t]
    exact ⟨h7, h8, fun _ => hd⟩
  · have ho := MT_obj h hu
    have hne := MT_ne h hu ht e
    obtain ⟨c1, c2, c3⟩ := hU u hu
    rw [hG _ ho hne]
    refine ⟨fun f hf => by rw [hr u hu e f (by omega)]; exact c1 f hf, c2, fun hlt => ?_⟩
    rw [hr u hu e 2 (by omega)]
    exact c3 (by omega)
/-- a turn goes -/
theorem MT_rm {G G' : Nat → Nat → Int32} {p : Nat → Nat} {r r' : Nat → Int32} {t n place n0 td : Nat} (h : MT G p r t n place n0 td) (ht : t < n)
    (hG : ∀ q, q < 12 → q ≠ p place → G' (29 + q) = G (29 + q)) (hr : ∀ k, 337 ≤ k → r' k = r k) : MT G' p (rmT r' t n) t (n - 1) (place + 1) n0 td := by
  obtain ⟨hU, hP, b1, b2, b3, b4⟩ := id h
  refine ⟨fun u hu => ?_, hP, by omega, by omega, by omega, b4⟩
  rw [obj_rm]
  by_cases e : u < t
  · rw [if_pos e]
    have ho := MT_obj h (u := u) (by omega)
    have hne := MT_ne h (u := u) (by omega) ht (by omega)
    obtain ⟨c1, c2, c3⟩ := hU u (by omega)
    rw [hG _ ho hne]
    refine ⟨fun f hf => by rw [rmT_at (by omega) (by omega), hr _ (by omega)]; exact c1 f hf, c2, fun hlt => ?_⟩
    rw [rmT_at (by omega) (by omega), hr _ (by omega)]
    exact c3 hlt
  · rw [if_neg e]
    have ho := MT_obj h (u := u + 1) (by omega)
    have hne := MT_ne h (u := u + 1) (by omega) ht (by omega)
    obtain ⟨c1, c2, c3⟩ := hU (u + 1) (by omega)
    rw [hG _ ho hne]
    refine ⟨fun f hf => by rw [rmT_sh (by omega) (by omega) hu, hr _ (by omega)]; exact c1 f hf, c2, fun hlt => by omega⟩
theorem DTR_keep {G G1 : Nat → Nat → Int32} {p : Nat → Nat} {r r1 : Nat → Int32} {t n place n0 td : Nat} {tg : Int32} {G' : Nat → Nat → Int32} {p' : Nat → Nat} {r' : Nat → Int32} {n' : Nat} {tg' : Int32} (hM : MT G p r t n place n0 td) (ht : t < n)
    (hG : ∀ q, q < 12 → G1 (29 + q) 7 = G (29 + q) 7) (hr : ∀ u, u < n → r1 (337 + 8 * u + 7) = r (337 + 8 * u + 7)) (h : DTR G1 (swp p place t) r1 (t + 1) n (place + 1) n0 td tg G' p' r' n' tg') : DTR G p r t n place n0 td tg G' p' r' n' tg' := by
  intro τ hτ
  obtain ⟨h1, D, h2, h3⟩ := h τ (fun u hu => by rw [hr u hu, obj_keep hM.2.2.1]; exact hτ u hu)
  refine ⟨h1, D, fun q hq => ⟨fun d => ?_, fun d => ?_⟩, h3⟩
  · obtain ⟨e1, v, v1, v2, v3⟩ := (h2 q hq).1 d
    have := hM.2.2.1
    exact ⟨e1, v, by omega, v2, by rw [v3, swp_n (by omega) (by omega)]⟩
  · rw [(h2 q hq).2 d, hG q hq]
theorem DTR_drop {G G1 : Nat → Nat → Int32} {p : Nat → Nat} {r r1 : Nat → Int32} {t n place n0 td : Nat} {tg : Int32} {G' : Nat → Nat → Int32} {p' : Nat → Nat} {r' : Nat → Int32} {n' : Nat} {tg' : Int32} (hM : MT G p r t n place n0 td) (ht : t < n)
    (hG : ∀ q, q < 12 → G1 (29 + q) 7 = G (29 + q) 7) (hr : ∀ k, 337 ≤ k → r1 k = r k) (h : DTR G1 p (rmT r1 t n) t (n - 1) (place + 1) n0 td tg G' p' r' n' tg') : DTR G p r t n place n0 td tg G' p' r' n' tg' := by
  intro τ hτ
  obtain ⟨h1, D, h2, h3⟩ := h τ (fun u hu => by
    rw [obj_rm]
    by_cases e : u < t
    · rw [if_pos e, rmT_at (by omega) (by omega), hr _ (by omega)]; exact hτ u (by omega)
    · rw [if_neg e, rmT_sh (by omega) (by omega) hu, hr _ (by omega)]; exact hτ (u + 1) (by omega))
  refine ⟨h1, D, fun q hq => ⟨fun d => ?_, fun d => ?_⟩, h3⟩
  · obtain ⟨e1, v, v1, v2, v3⟩ := (h2 q hq).1 d
    exact ⟨e1, v, by omega, v2, v3⟩
  · rw [(h2 q hq).2 d, hG q hq]
theorem DTR_done {G G1 : Nat → Nat → Int32} {p : Nat → Nat} {r r1 : Nat → Int32} {t n place n0 td : Nat} {tg : Int32} {G' : Nat → Nat → Int32} {p' : Nat → Nat} {r' : Nat → Int32} {n' : Nat} {tg' : Int32} (hM : MT G p r t n place n0 td) (ht : t < n)
    (hG : ∀ q, q < 12 → q ≠ p place → G1 (29 + q) 7 = G (29 + q) 7) (hG7 : G1 (29 + p place) 7 = nI td) (hr : ∀ k, 337 ≤ k → r1 k = r k) (h : DTR G1 p (rmT r1 t n) t (n - 1) (place + 1) n0 td (tg ||| (nI 1 <<< (r (337 + 8 * t + 7) &&& 31))) G' p' r' n' tg') : DTR G p r t n place n0 td tg G' p' r' n' tg' := by
  intro τ hτ
  obtain ⟨hU, hP, b1, b2, b3, b4⟩ := id hM
  obtain ⟨h1, D, h2, h3⟩ := h τ (fun u hu => by
    rw [obj_rm]
    by_cases e : u < t
    · rw [if_pos e, rmT_at (by omega) (by omega), hr _ (by omega)]; exact hτ u (by omega)
    · rw [if_neg e, rmT_sh (by omega) (by omega) hu, hr _ (by omega)]; exact hτ (u + 1) (by omega))
  have hpp := hP.1 place (by omega)
  have hnD : ¬ D (p place) := fun d => by
    obtain ⟨-, v, v1, v2, v3⟩ := (h2 _ hpp).1 d
    have := hP.2 place v (by omega) (by omega) v3
    omega
  have htag : r (337 + 8 * t + 7) = τ (p place) := by rw [hτ t ht, obj_t]
  refine ⟨h1, fun q => D q ∨ q = p place, fun q hq => ⟨fun d => ?_, fun d => ?_⟩, fun b hb => ?_⟩
  · rcases d with d | d
    · obtain ⟨e1, v, v1, v2, v3⟩ := (h2 q hq).1 d
      exact ⟨e1, v, by omega, v2, v3⟩
    · subst d
      exact ⟨by rw [(h2 _ hpp).2 hnD, hG7], place, by omega, by omega, rfl⟩
  · rw [(h2 q hq).2 (fun e => d (Or.inl e)), hG q hq (fun e => d (Or.inr e))]
  · rw [h3 b hb, bit_or, htag]
    constructor
    · rintro ((a | a) | ⟨q, q1, q2, q3⟩)
      · exact Or.inl a
      · exact Or.inr ⟨_, hpp, Or.inr rfl, a⟩
      · exact Or.inr ⟨q, q1, Or.inl q2, q3⟩
    · rintro (a | ⟨q, q1, q2 | q2, q3⟩)
      · exact Or.inl (Or.inl a)
      · exact Or.inr ⟨q, q1, q2, q3⟩
      · subst q2; exact Or.inl (Or.inr q3)
/-- behind the turns: the numbers, the turns that are left -/
def MF (G : Nat → Nat → Int32) (p : Nat → Nat) (r : Nat → Int32) (n' nr nk td : Nat) (mi : Int32) : Prop := MA r n' nr nk td ∧ MG G r nr nk td n' mi ∧ MT G p r n' n' n' n' td
theorem GI_d {r : Nat → Int32} {n nr nk td t : Nat} (h : MA r n nr nk td) (ht : t < n) : ∃ d, td ≤ d ∧ d < 200 ∧ r (337 + 8 * t + 2) = nI d := (h.2.2.2.2.2.2.2.2 t ht).1
theorem MG_t {G G' : Nat → Nat → Int32} {r r' : Nat → Int32} {nr nk td n0 : Nat} {mi : Int32} (h : MG G r nr nk td n0 mi) (hG : ∀ j, j < 29 → G' j = G j) (hr : ∀ k, k ≠ 3 → k < 337 → r' k = r k) (hnr : nr ≤ 3) (hnk : nk ≤ 8) : MG G' r' nr nk td n0 mi := by
  obtain ⟨⟨c0, c1, c2, c3, c4, c5, c6⟩, ⟨hB1, hB2⟩, ⟨h3, hD, hSt, hFr⟩, hK, hKf⟩ := h
  refine ⟨?_, ⟨fun k hk => ?_, fun k hk => ?_⟩, ⟨fun i hi f hf => ?_, ⟨fun i hi => ?_, fun i hi hi3 => ?_⟩, fun i hi s hs f hf => ?_, fun i hi hi3 => ⟨?_, fun s hs f hf => ?_⟩⟩, fun k hk f hf => ?_, fun k hk hk8 => ⟨?_, fun f hf hf7 => ?_⟩⟩
  · rw [hG 0 (by omega), hr 4 (by omega) (by omega), hr 5 (by omega) (by omega), hr 6 (by omega) (by omega)]; exact ⟨c0, c1, c2, c3, c4, c5, c6⟩
  · rw [hG _ (by omega), hr _ (by omega) (by omega)]; exact hB1 k hk
  · rw [hG _ (by omega), hr _ (by omega) (by omega)]; exact hB2 k hk
  · rw [hG _ (by omega), hr _ (by omega) (by omega)]; exact h3 i hi f hf
  · rw [hG _ (by omega), hr _ (by omega) (by omega), hr _ (by omega) (by omega)]; exact hD.1 i hi
  · rw [hG _ (by omega)]; exact hD.2 i hi hi3
  · rw [hG _ (by omega), hr _ (by omega) (by omega)]; exact hSt i hi s hs f hf
  · rw [hG _ (by omega)]; exact (hFr i hi hi3).1
  · rw [hG _ (by omega)]; exact (hFr i hi hi3).2 s hs f hf
  · rw [hG _ (by omega), hr _ (by omega) (by omega)]; exact hK k hk f hf
  · rw [hG _ (by omega)]; exact (hKf k hk hk8).1
  · rw [hG _ (by omega)]; exact (hKf k hk hk8).2 f hf hf7
theorem MG_miss {G G' : Nat → Nat → Int32} {r : Nat → Int32} {nr nk td n0 i t : Nat} {mi : Int32} {x : Int32} (h : MG G r nr nk td n0 mi) (hnr : nr ≤ 3) (hnk : nk ≤ 8) (hi : i < nr)
    (h0 : ∀ f, f ≠ 3 → G' 0 f = G 0 f) (h03 : G' 0 3 = G 0 3 + nI 1) (hG : ∀ j, j < 29 → j ≠ 0 → j ≠ 6 + 5 * i → G' j = G j) (hg : ∀ f, f < 3 → G' (6 + 5 * i) f = G (6 + 5 * i) f)
    (hd : (G (6 + 5 * i) 4 = nI td ∧ G' (6 + 5 * i) 4 = nI td ∧ G' (6 + 5 * i) 3 = G (6 + 5 * i) 3) ∨ (G (6 + 5 * i) 4 ≠ nI td ∧ G' (6 + 5 * i) 4 = nI td ∧ G' (6 + 5 * i) 3 = G (6 + 5 * i) 3 + nI 1)) (htd : td < 200) :
    MG G' (zup (zup r (337 + 8 * t + 2) x) (221 + 20 * i + 4) (nI 1)) nr nk td n0 (mi + nI 1) := by
  obtain ⟨⟨c0, c1, c2, c3, c4, c5, c6⟩, ⟨hB1, hB2⟩, ⟨h3, hD, hSt, hFr⟩, hK, hKf⟩ := h
  refine ⟨?_, ⟨fun k hk => ?_, fun k hk => ?_⟩, ⟨fun j hj f hf => ?_, ⟨fun j hj => ?_, fun j hj hj3 => ?_⟩, fun j hj s hs f hf => ?_, fun j hj hj3 => ⟨?_, fun s hs f hf => ?_⟩⟩, fun k hk f hf => ?_, fun k hk hk8 => ⟨?_, fun f hf hf7 => ?_⟩⟩
  · rw [h0 0 (by omega), h0 1 (by omega), h0 2 (by omega), h03, h0 4 (by omega), h0 5 (by omega), h0 6 (by omega)]
    simp (disch := omega) only [zup_ne]
    exact ⟨c0, c1, c2, by rw [c3, Int32.add_assoc], c4, c5, c6⟩
  · rw [hG _ (by omega) (by omega) (by omega), zup_ne (by omega), zup_ne (by omega)]; exact hB1 k hk
  · rw [hG _ (by omega) (by omega) (by omega), zup_ne (by omega), zup_ne (by omega)]; exact hB2 k hk
  · rw [zup_ne (by omega), zup_ne (by omega)]
    by_cases e : j = i
    · subst e; rw [hg f hf]; exact h3 j hj f hf
    · rw [hG _ (by omega) (by omega) (by omega)]; exact h3 j hj f hf
  · by_cases e : j = i
    · subst e
      rw [zup_eq rfl, zup_ne (by omega), zup_ne (by omega)]
      have hD' := hD.1 j hj
      refine Or.inl ?_
      rcases hd with ⟨d1, d2, d3⟩ | ⟨d1, d2, d3⟩
      · rcases hD' with ⟨e1, e2, e3⟩ | ⟨e1, e2, e3⟩
        · exact ⟨d2, rfl, d3.trans e3⟩
        · rw [d1] at e1
          rcases e1 with e1 | ⟨d, q1, q2⟩
          · rw [nI_m9 (by omega)] at e1; exact e1.elim
          · have := nIinj (by omega) (by omega) q2; omega
      · rcases hD' with ⟨e1, e2, e3⟩ | ⟨e1, e2, e3⟩
        · exact absurd e1 d1
        · exact ⟨d2, rfl, by rw [d3, e3]⟩
    · rw [hG _ (by omega) (by omega) (by omega), zup_ne (by omega), zup_ne (by omega), zup_ne (by omega), zup_ne (by omega)]; exact hD.1 j hj
  · rw [hG _ (by omega) (by omega) (by omega)]; exact hD.2 j hj hj3
  · rw [hG _ (by omega) (by omega) (by omega), zup_ne (by omega), zup_ne (by omega)]; exact hSt j hj s hs f hf
  · rw [hG _ (by omega) (by omega) (by omega)]; exact (hFr j hj hj3).1
  · rw [hG _ (by omega) (by omega) (by omega)]; exact (hFr j hj hj3).2 s hs f hf
  · rw [hG _ (by omega) (by omega) (by omega), zup_ne (by omega), zup_ne (by omega)]; exact hK k hk f hf
  · rw [hG _ (by omega) (by omega) (by omega)]; exact (hKf k hk hk8).1
  · rw [hG _ (by omega) (by omega) (by omega)]; exact (hKf k hk hk8).2 f hf hf7
/-- carried out: numbers and row move together -/
theorem MG_done {G G1 G' : Nat → Nat → Int32} {r r' : Nat → Int32} {nr nk td n0 : Nat} {mi : Int32} (h : MG G r nr nk td n0 mi) (hnr : nr ≤ 3) (hnk : nk ≤ 8) (hR : DR G G1 r' nr nk) (hr : ∀ k, k < 221 → r' k = r k) (hr2 : ∀ i, i < nr → ∀ f, f < 5 → r' (221 + 20 * i + f) = r (221 + 20 * i + f))
    (hG : ∀ j, j < 29 → j ≠ 0 → G' j = G1 j) (h0 : ∀ f, f ≠ 1 → G' 0 f = G 0 f) (h1 : G' 0 1 = G 0 1 + nI 1) : MG G' (zup r' 4 (r' 4 + nI 1)) nr nk td n0 mi := by
  obtain ⟨⟨c0, c1, c2, c3, c4, c5, c6⟩, ⟨hB1, hB2⟩, ⟨h3, hD, hSt, hFr⟩, hK, hKf⟩ := h
  obtain ⟨d1, d2, d3, d4, d5⟩ := hR
  refine ⟨?_, ⟨fun k hk => ?_, fun k hk => ?_⟩, ⟨fun j hj f hf => ?_, ⟨fun j hj => ?_, fun j hj hj3 => ?_⟩, fun j hj s hs f hf => ?_, fun j hj hj3 => ⟨?_, fun s hs f hf => ?_⟩⟩, fun k hk f hf => ?_, fun k hk hk8 => ⟨?_, fun f hf hf7 => ?_⟩⟩
  · rw [h0 0 (by omega), h1, h0 2 (by omega), h0 3 (by omega), h0 4 (by omega), h0 5 (by omega), h0 6 (by omega), zup_eq rfl, zup_ne (by omega), zup_ne (by omega), hr 4 (by omega), hr 5 (by omega), hr 6 (by omega)]
    exact ⟨c0, by rw [c1], c2, c3, c4, c5, c6⟩
  · rw [hG _ (by omega) (by omega), d1 _ (by omega), zup_ne (by omega), hr _ (by omega)]; exact hB1 k hk
  · rw [hG _ (by omega) (by omega), d1 _ (by omega), zup_ne (by omega), hr _ (by omega)]; exact hB2 k hk
  · rw [hG _ (by omega) (by omega), d1 _ (Or.inr (Or.inr ⟨j, by omega, rfl⟩)), zup_ne (by omega), hr2 j hj f (by omega)]; exact h3 j hj f hf
  · rw [hG _ (by omega) (by omega), d1 _ (Or.inr (Or.inr ⟨j, by omega, rfl⟩)), zup_ne (by omega), zup_ne (by omega), hr2 j hj 4 (by omega), hr2 j hj 3 (by omega)]; exact hD.1 j hj
  · rw [hG _ (by omega) (by omega), d1 _ (Or.inr (Or.inr ⟨j, by omega, rfl⟩))]; exact hD.2 j hj hj3
  · rw [hG _ (by omega) (by omega), zup_ne (by omega)]; exact d2 j hj s hs f hf
  · rw [hG _ (by omega) (by omega)]; exact (d3 j hj hj3).1
  · rw [hG _ (by omega) (by omega)]; exact (d3 j hj hj3).2 s hs f hf
  · rw [hG _ (by omega) (by omega), zup_ne (by omega)]; exact d4 k hk f hf
  · rw [hG _ (by omega) (by omega)]; exact (d5 k hk hk8).1
  · rw [hG _ (by omega) (by omega)]; exact (d5 k hk hk8).2 f hf hf7
theorem MG_drop {G G' : Nat → Nat → Int32} {r : Nat → Int32} {nr nk td n0 : Nat} {mi : Int32} (h : MG G r nr nk td n0 mi) (hnr : nr ≤ 3) (hnk : nk ≤ 8)
    (hG : ∀ j, j < 29 → j ≠ 0 → G' j = G j) (h0 : ∀ f, f ≠ 2 → G' 0 f = G 0 f) (h1 : G' 0 2 = G 0 2 + nI 1) : MG G' (zup r 5 (r 5 + nI 1)) nr nk td n0 mi := by
  obtain ⟨⟨c0, c1, c2, c3, c4, c5, c6⟩, ⟨hB1, hB2⟩, ⟨h3, hD, hSt, hFr⟩, hK, hKf⟩ := h
  refine ⟨?_, ⟨fun k hk => ?_, fun k hk => ?_⟩, ⟨fun j hj f hf => ?_, ⟨fun j hj => ?_, fun j hj hj3 => ?_⟩, fun j hj s hs f hf => ?_, fun j hj hj3 => ⟨?_, fun s hs f hf => ?_⟩⟩, fun k hk f hf => ?_, fun k hk hk8 => ⟨?_, fun f hf hf7 => ?_⟩⟩
  · rw [h0 0 (by omega), h1, h0 1 (by omega), h0 3 (by omega), h0 4 (by omega), h0 5 (by omega), h0 6 (by omega), zup_eq rfl, zup_ne (by omega), zup_ne (by omega)]
    exact ⟨c0, c1, by rw [c2], c3, c4, c5, c6⟩
  · rw [hG _ (by omega) (by omega), zup_ne (by omega)]; exact hB1 k hk
  · rw [hG _ (by omega) (by omega), zup_ne (by omega)]; exact hB2 k hk
  · rw [hG _ (by omega) (by omega), zup_ne (by omega)]; exact h3 j hj f hf
  · rw [hG _ (by omega) (by omega), zup_ne (by omega), zup_ne (by omega)]; exact hD.1 j hj
  · rw [hG _ (by omega) (by omega)]; exact hD.2 j hj hj3
  · rw [hG _ (by omega) (by omega), zup_ne (by omega)]; exact hSt j hj s hs f hf
  · rw [hG _ (by omega) (by omega)]; exact (hFr j hj hj3).1
  · rw [hG _ (by omega) (by omega)]; exact (hFr j hj hj3).2 s hs f hf
  · rw [hG _ (by omega) (by omega), zup_ne (by omega)]; exact hK k hk f hf
  · rw [hG _ (by omega) (by omega)]; exact (hKf k hk hk8).1
  · rw [hG _ (by omega) (by omega)]; exact (hKf k hk hk8).2 f hf hf7
theorem MG_n0 {G : Nat → Nat → Int32} {r : Nat → Int32} {nr nk td n0 n : Nat} {mi : Int32} (h : MG G r nr nk td n0 mi) : MG (zup G 0 (zup (G 0) 6 (nI n))) r nr nk td n mi := by
  obtain ⟨⟨c0, c1, c2, c3, c4, c5, c6⟩, ⟨hB1, hB2⟩, ⟨h3, hD, hSt, hFr⟩, hK, hKf⟩ := h
  refine ⟨?_, ⟨fun k hk => ?_, fun k hk => ?_⟩, ⟨fun j hj f hf => ?_, ⟨fun j hj => ?_, fun j hj hj3 => ?_⟩, fun j hj s hs f hf => ?_, fun j hj hj3 => ⟨?_, fun s hs f hf => ?_⟩⟩, fun k hk f hf => ?_, fun k hk hk8 => ⟨?_, fun f hf hf7 => ?_⟩⟩
  · simp (disch := omega) only [zup_eq, zup_ne, and_true]; exact ⟨c0, c1, c2, c3, c4, c5⟩
  · rw [zup_ne (by omega)]; exact hB1 k hk
  · rw [zup_ne (by omega)]; exact hB2 k hk
  · rw [zup_ne (by omega)]; exact h3 j hj f hf
  · rw [zup_ne (by omega)]; exact hD.1 j hj
  · rw [zup_ne (by omega)]; exact hD.2 j hj hj3
  · rw [zup_ne (by omega)]; exact hSt j hj s hs f hf
  · rw [zup_ne (by omega)]; exact (hFr j hj hj3).1
  · rw [zup_ne (by omega)]; exact (hFr j hj hj3).2 s hs f hf
  · rw [zup_ne (by omega)]; exact hK k hk f hf
  · rw [zup_ne (by omega)]; exact (hKf k hk hk8).1
  · rw [zup_ne (by omega)]; exact (hKf k hk hk8).2 f hf hf7

