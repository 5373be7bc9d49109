/-! A day, between its turns: what holds of row and world. -/
theorem kO_zup {r : Nat → Int32} {g n : Nat} {v x : Int32} (hg : g < n) : kO (zup r (281 + 7 * g + 1) v) x n + (if r (281 + 7 * g + 1) = x then 1 else 0) = kO r x n + (if v = x then 1 else 0) := by
  induction n with
  | zero => omega
  | succ n ih =>
    rw [kO_s, kO_s]
    by_cases e : g = n
    · subst e
      rw [zup_eq rfl, kO_congr (r := zup r (281 + 7 * g + 1) v) (r' := r) (fun k hk => zup_ne (by omega))]
      omega
    · rw [zup_ne (show 281 + 7 * n + 1 ≠ 281 + 7 * g + 1 by omega)]
      have := ih (by omega)
      omega
def MA (r : Nat → Int32) (n nr nk td : Nat) : Prop := GI r n nr nk td ∧ KP r nr nk ∧ r 1 = nI nr ∧ XI r nr nk n td
theorem MA_miss {r : Nat → Int32} {n nr nk td t i : Nat} {x : Int32} (h : MA r n nr nk td) (ht : t < n) (hi : i < nr) : MA (zup (zup r (337 + 8 * t + 2) (nI (td + 1))) (221 + 20 * i + 4) x) n nr nk td := by
  obtain ⟨hG, hK, h1, hX1, hX2, hX3, hX4, hX5, hX6⟩ := h
  have hb := hG.2.2.2.1
  refine ⟨GI_up (GI_day hG (by omega)) (by omega), KP_of (fun k hk => by rw [zup_ne (by omega), zup_ne (by omega)]) hK, by rw [zup_ne (by omega), zup_ne (by omega)]; exact h1, ?_, ?_, ?_, ?_, ?_, ?_⟩
  · intro k hk; rw [zup_ne (by omega), zup_ne (by omega)]; exact hX1 k hk
  · intro k hk; rw [zup_ne (by omega), zup_ne (by omega)]; exact hX2 k hk
  · intro j hj; rw [zup_ne (by omega), zup_ne (by omega), kO_congr (r' := r) (fun k hk => by rw [zup_ne (by omega), zup_ne (by omega)])]; exact hX3 j hj
  · intro j hj s hs; rw [zup_ne (by omega), zup_ne (by omega)]; exact hX4 j hj s hs
  · intro k hk; simp (disch := omega) only [zup_ne]; exact hX5 k hk
  · intro u hu
    by_cases e : u = t
    · subst e
      simp (disch := omega) only [zup_eq, zup_ne]
      exact ⟨⟨td + 1, by omega, by omega, rfl⟩, (hX6 u hu).2⟩
    · simp (disch := omega) only [zup_ne]; exact hX6 u hu
theorem MA_rm {r : Nat → Int32} {n nr nk td t : Nat} (h : MA r n nr nk td) (ht : t < n) : MA (rmT r t n) (n - 1) nr nk td := by
  obtain ⟨hG, hK, h1, hX1, hX2, hX3, hX4, hX5, hX6⟩ := h
  have hb := hG.2.2.2.1
  have hat : ∀ k, k ≠ 3 → k < 337 → rmT r t n k = r k := fun k q1 q2 => rmT_at q1 (by omega)
  refine ⟨GI_rm hG ht, KP_of (fun k hk => hat _ (by omega) (by omega)) hK, by rw [hat _ (by omega) (by omega)]; exact h1, ?_, ?_, ?_, ?_, ?_, ?_⟩
  · intro k hk; rw [hat _ (by omega) (by omega)]; exact hX1 k hk
  · intro k hk; rw [hat _ (by omega) (by omega)]; exact hX2 k hk
  · intro j hj; rw [hat _ (by omega) (by omega), kO_congr (r' := r) (fun k hk => hat _ (by omega) (by omega))]; exact hX3 j hj
  · intro j hj s hs; rw [hat _ (by omega) (by omega)]; exact hX4 j hj s hs
  · intro k hk; rw [hat _ (by omega) (by omega), hat _ (by omega) (by omega), hat _ (by omega) (by omega)]; exact hX5 k hk
  · intro u hu
    by_cases e : t ≤ u
    · rw [rmT_sh (by omega) e (by omega), rmT_sh (by omega) e (by omega), rmT_sh (by omega) e (by omega)]
      exact hX6 (u + 1) (by omega)
    · rw [rmT_at (by omega) (by omega), rmT_at (by omega) (by omega), rmT_at (by omega) (by omega)]
      exact hX6 u (by omega)
theorem MA_up {r : Nat → Int32} {n nr nk td k : Nat} {x : Int32} (h : MA r n nr nk td) (hk : 4 ≤ k ∧ k < 7) : MA (zup r k x) n nr nk td := by
  obtain ⟨hG, hK, h1, hX1, hX2, hX3, hX4, hX5, hX6⟩ := h
  have hb := hG.2.2.2.1
  refine ⟨GI_up hG (by omega), KP_of (fun k hk => by rw [zup_ne (by omega)]) hK, by rw [zup_ne (by omega)]; exact h1, ?_, ?_, ?_, ?_, ?_, ?_⟩
  · intro k hk; rw [zup_ne (by omega)]; exact hX1 k hk
  · intro k hk; rw [zup_ne (by omega)]; exact hX2 k hk
  · intro j hj; rw [zup_ne (by omega), kO_congr (r' := r) (fun k hk => by rw [zup_ne (by omega)])]; exact hX3 j hj
  · intro j hj s hs; rw [zup_ne (by omega)]; exact hX4 j hj s hs
  · intro k hk; simp (disch := omega) only [zup_ne]; exact hX5 k hk
  · intro u hu; simp (disch := omega) only [zup_ne]; exact hX6 u hu
theorem i32_add0 (x : Int32) : x + nI 0 = x := Int32.add_zero x
theorem pos_lt {q m : Nat} (hq : q ≤ 3) (hm : m ≤ 8) : (0 < nI q - nI m + nI 0) = (m < q) := by
  rw [i32_add0, i32lt, subI (by omega) (by omega), i32_0]; apply propext; omega
theorem dT_MA {r : Nat → Int32} {n nr nk td t : Nat} (h : MA r n nr nk td) (ht : t < n) (hc : cbd r t nk) : MA (dT r t) n nr nk td := by
  obtain ⟨hG, hK, h1, hX1, hX2, hX3, hX4, hX5, hX6⟩ := h
  have hb := hG.2.2.2.1
  have hT := hG.2.2.2.2 t ht
  have hat := fun k hk => dT_at (k := k) hb.2.2.1 hb.2.2.2 hT hk
  have hKP := dT_pl hb.2.2.1 hb.2.2.2 hT hK
  obtain ⟨⟨i, hi, ei⟩, -, hcc, hcg, hkd⟩ := hT
  have hko : ∀ x, kO r x nk ≤ 8 := fun x => Nat.le_trans (kO_le _ _ _) hb.2.2.2
  -- which cells change
  have hS : (∀ k, k < nk → dT r t (281 + 7 * k + 0) = r (281 + 7 * k + 0) ∧ dT r t (281 + 7 * k + 3) = r (281 + 7 * k + 3) ∧ dT r t (281 + 7 * k + 2) = r (281 + 7 * k + 2)) ∧
      (∀ j, j < nr → dT r t (221 + 20 * j + 2) = r (221 + 20 * j + 2) ∧ ∀ s, s < 3 → dT r t (221 + 20 * j + 5 + 5 * s + 1) = r (221 + 20 * j + 5 + 5 * s + 1)) ∧
      (∀ j, j < nr → ∀ q, q ≤ 3 → r (221 + 20 * j + 2) = nI q → kO r (nI j) nk ≤ q → kO (dT r t) (nI j) nk ≤ q) := by
    unfold dT
    rcases hkd with ⟨h0, -, -, s', hs', es⟩ | ⟨h0, -⟩
    · rw [if_pos h0, ei, es, ixx_nI (by omega), ixx_nI (by omega)]
      refine ⟨fun k hk => ?_, fun j hj => ⟨?_, fun s hs => ?_⟩, fun j hj q hq eq hle => ?_⟩
      · simp (disch := omega) only [zup_ne, and_self]
      · simp (disch := omega) only [zup_ne]
      · simp (disch := omega) only [zup_ne]
      · rw [kO_congr (r' := r) (fun k hk => by simp (disch := omega) only [zup_ne])]; exact hle
    · rw [if_neg h0]
      unfold cbd at hc
      rw [ei, ixx_nI (by omega)] at hc
      rcases hcc with hcc | ⟨c, hck, hcc⟩
      · rw [if_pos hcc]
        rcases hcg with hcg | ⟨g, hgk, hcg⟩
        · rw [if_pos hcg]
          exact ⟨fun k hk => ⟨rfl, rfl, rfl⟩, fun j hj => ⟨rfl, fun s hs => rfl⟩, fun j hj q hq eq hle => hle⟩
        · rw [if_neg (by rw [hcg, nI_m9 (by omega)]; exact fun q => q), hcg, ixx_nI (by omega), ei]
          refine ⟨fun k hk => ?_, fun j hj => ⟨?_, fun s hs => ?_⟩, fun j hj q hq eq hle => ?_⟩
          · simp (disch := omega) only [zup_ne, and_self]
          · simp (disch := omega) only [zup_ne]
          · simp (disch := omega) only [zup_ne]
          · have hz := kO_zup (r := r) (v := nI i) (x := nI j) hgk
            by_cases e : i = j
            · subst e
              have h2 := (hc.2.resolve_left (by rw [hcg, nI_m9 (by omega)]; exact fun q => q)).2
              rw [eq, if_pos hcc, pos_lt hq (hko _)] at h2
              split at hz <;> split at hz <;> omega
            · rw [if_neg (show ¬ nI i = nI j from fun q => e (nIinj (by omega) (by omega) q))] at hz
              split at hz <;> omega
      · rw [if_neg (by rw [hcc, nI_m9 (by omega)]; exact fun q => q)]
        have hcp := hc.1.resolve_left (by rw [hcc, nI_m9 (by omega)]; exact fun q => q)
        rw [hcc, ixx_nI (by omega)] at hcp
        rcases hcg with hcg | ⟨g, hgk, hcg⟩
        · rw [if_pos hcg, hcc, ixx_nI (by omega)]
          refine ⟨fun k hk => ?_, fun j hj => ⟨?_, fun s hs => ?_⟩, fun j hj q hq eq hle => ?_⟩
          · simp (disch := omega) only [zup_ne, and_self]
          · simp (disch := omega) only [zup_ne]
          · simp (disch := omega) only [zup_ne]
          · have hz := kO_zup (r := r) (v := -9) (x := nI j) hck
            rw [if_neg (show ¬ (-9 : Int32) = nI j by rw [nI_m9' (by omega)]; exact fun q => q)] at hz
            split at hz <;> omega
        · rw [if_neg (by rw [hcg, nI_m9 (by omega)]; exact fun q => q), hcc, hcg, ixx_nI (by omega), ixx_nI (by omega), ei]
          refine ⟨fun k hk => ?_, fun j hj => ⟨?_, fun s hs => ?_⟩, fun j hj q hq eq hle => ?_⟩
          · simp (disch := omega) only [zup_ne, and_self]
          · simp (disch := omega) only [zup_ne]
          · simp (disch := omega) only [zup_ne]
          · have hz := kO_zup (r := r) (v := -9) (x := nI j) hck
            have hz2 := kO_zup (r := zup r (281 + 7 * c + 1) (-9)) (v := nI i) (x := nI j) hgk
            rw [if_neg (show ¬ (-9 : Int32) = nI j by rw [nI_m9' (by omega)]; exact fun q => q), hcp] at hz
            by_cases e : i = j
            · subst e
              rw [if_pos rfl] at hz
              rw [if_pos (show nI i = nI i from rfl)] at hz2
              split at hz2 <;> omega
            · rw [if_neg (show ¬ nI i = nI j from fun q => e (nIinj (by omega) (by omega) q))] at hz hz2
              split at hz2 <;> omega
  refine ⟨GI_dT hG ht, hKP, (hat _ (by omega)).trans h1, ?_, ?_, ?_, ?_, ?_, ?_⟩
  · intro k hk; rw [hat _ (by omega)]; exact hX1 k hk
  · intro k hk; rw [hat _ (by omega)]; exact hX2 k hk
  · intro j hj
    obtain ⟨q, q1, q2, q3⟩ := hX3 j hj
    exact ⟨q, q1, (hS.2.1 j hj).1.trans q2, hS.2.2 j hj q q1 q2 q3⟩
  · intro j hj s hs; rw [(hS.2.1 j hj).2 s hs]; exact hX4 j hj s hs
  · intro k hk; rw [(hS.1 k hk).1, (hS.1 k hk).2.1, (hS.1 k hk).2.2]; exact hX5 k hk
  · intro u hu; rw [hat _ (by omega), hat _ (by omega), hat _ (by omega)]; exact hX6 u hu
def LDo (x : Int32) (td : Nat) : Prop := x = -9 ∨ ∃ d, d < td ∧ x = nI d
/-- which watches are doubled today -/
def DB (G : Nat → Nat → Int32) (r : Nat → Int32) (nr td : Nat) : Prop := (∀ i, i < nr → (G (6 + 5 * i) 4 = nI td ∧ r (221 + 20 * i + 4) = nI 1 ∧ G (6 + 5 * i) 3 = r (221 + 20 * i + 3) + nI 1) ∨ (LDo (G (6 + 5 * i) 4) td ∧ r (221 + 20 * i + 4) = nI 0 ∧ G (6 + 5 * i) 3 = r (221 + 20 * i + 3))) ∧ ∀ i, nr ≤ i → i < 3 → LDo (G (6 + 5 * i) 4) td
def MG (G : Nat → Nat → Int32) (r : Nat → Int32) (nr nk td n0 : Nat) (mi : Int32) : Prop := (G 0 0 = nI td ∧ G 0 1 = r 4 ∧ G 0 2 = r 5 ∧ G 0 3 = r 6 + mi ∧ G 0 4 = nI nr ∧ G 0 5 = nI nk ∧ G 0 6 = nI n0) ∧ CB G r ∧ (CR3 G r nr ∧ DB G r nr td ∧ CSt G r nr ∧ CFr G nr) ∧ CK G r nk ∧ CKf G nk
def obj (p : Nat → Nat) (t place u : Nat) : Nat := if u < t then p u else p (u + place - t)
def MT (G : Nat → Nat → Int32) (p : Nat → Nat) (r : Nat → Int32) (t n place n0 td : Nat) : Prop := (∀ u, u < n → (∀ f, f < 7 → G (29 + obj p t place u) f = r (337 + 8 * u + f)) ∧ G (29 + obj p t place u) 7 = -9 ∧ (u < t → ∃ d, td < d ∧ d < 200 ∧ r (337 + 8 * u + 2) = nI d)) ∧ PM p ∧ t ≤ place ∧ t ≤ n ∧ n + place = n0 + t ∧ n0 ≤ 12
def swp (p : Nat → Nat) (a b : Nat) : Nat → Nat := zup (zup p a (p b)) b (p a)
theorem swp_b (p : Nat → Nat) (a b : Nat) : swp p a b b = p a := zup_eq rfl
theorem swp_a (p : Nat → Nat) (a b : Nat) : swp p a b a = p b := by
  unfold swp
  by_cases h : a = b
  · rw [zup_eq h, h]
  · rw [zup_ne h, zup_eq rfl]
theorem swp_n {p : Nat → Nat} {a b k : Nat} (h : k ≠ a) (h2 : k ≠ b) : swp p a b k = p k := by unfold swp; rw [zup_ne h2, zup_ne h]
theorem PM_swp {p : Nat → Nat} {a b : Nat} (hP : PM p) (ha : a < 12) (hb : b < 12) : PM (swp p a b) := by
  have key : ∀ k, k < 12 → ∃ j, j < 12 ∧ swp p a b k = p j ∧ ((k = b ∧ j = a) ∨ (k ≠ b ∧ k = a ∧ j = b) ∨ (k ≠ b ∧ k ≠ a ∧ j = k)) := by
    intro k hk
    by_cases h1 : k = b
    · exact ⟨a, ha, by rw [h1, swp_b], Or.inl ⟨h1, rfl⟩⟩
    · by_cases h2 : k = a
      · exact ⟨b, hb, by rw [h2, swp_a], Or.inr (Or.inl ⟨h1, h2, rfl⟩)⟩
      · exact ⟨k, hk, swp_n h2 h1, Or.inr (Or.inr ⟨h1, h2, rfl⟩)⟩
  refine ⟨fun k hk => ?_, fun x y hx hy e => ?_⟩
  · obtain ⟨j, q1, q2, -⟩ := key k hk
    rw [q2]; exact hP.1 j q1
  · obtain ⟨j, q1, q2, q3⟩ := key x hx
    obtain ⟨j', s1, s2, s3⟩ := key y hy
    rw [q2, s2] at e
    have e2 := hP.2 j j' q1 s1 e
    omega
theorem obj_keep {p : Nat → Nat} {t place u : Nat} (h : t ≤ place) : obj (swp p place t) (t + 1) (place + 1) u = obj p t place u := by
  unfold obj
  by_cases h1 : u < t
  · rw [if_pos (by omega), if_pos h1, swp_n (by omega) (by omega)]
  · by_cases h2 : u = t
    · subst h2
      rw [if_pos (by omega), if_neg h1, swp_b]; congr 1; omega
    · rw [if_neg (by omega), if_neg h1, swp_n (by omega) (by omega)]; congr 1; omega
theorem obj_rm {p : Nat → Nat} {t place u : Nat} : obj p t (place + 1) u = if u < t then obj p t place u else obj p t place (u + 1) := by
  unfold obj
  by_cases h1 : u < t
  · rw [if_pos h1, if_pos h1, if_pos h1]
  · rw [if_neg h1, if_neg h1, if_neg (by omega)]; congr 1; omega
theorem obj_t {p : Nat → Nat} {t place : Nat} : obj p t place t = p place := by
  unfold obj; rw [if_neg (by omega)]; congr 1; omega
theorem obj_inj {p : Nat → Nat} {t n place n0 u v : Nat} (hP : PM p) (h1 : t ≤ place) (h2 : n + place = n0 + t) (h3 : n0 ≤ 12) (h4 : t ≤ n) (hu : u < n) (hv : v < n) (e : obj p t place u = obj p t place v) : u = v := by
  unfold obj at e
  split at e <;> split at e
  · exact hP.2 u v (by omega) (by omega) e
  · have := hP.2 u _ (by omega) (by omega) e; omega
  · have := hP.2 _ v (by omega) (by omega) e; omega
  · have := hP.2 _ _ (by omega) (by omega) e; omega
theorem obj_lt {p : Nat → Nat} {t n place n0 u : Nat} (hP : PM p) (h1 : t ≤ place) (h2 : n + place = n0 + t) (h3 : n0 ≤ 12) (h4 : t ≤ n) (hu : u < n) : obj p t place u < 12 := by
  unfold obj
  split
  · exact hP.1 _ (by omega)
  · exact hP.1 _ (by omega)
def bit (b : Nat) (x : Int32) : Prop := (x >>> (nI b &&& 31)) &&& nI 1 = nI 1
def tb (x : Int32) (b : Nat) : Prop := bit b (nI 1 <<< (x &&& 31))
def DTR (G : Nat → Nat → Int32) (p : Nat → Nat) (r : Nat → Int32) (t n place n0 td : Nat) (tg : Int32) (G' : Nat → Nat → Int32) (p' : Nat → Nat) (r' : Nat → Int32) (n' : Nat) (tg' : Int32) : Prop :=
  ∀ τ : Nat → Int32, (∀ u, u < n → r (337 + 8 * u + 7) = τ (obj p t place u)) → (∀ u, u < n' → r' (337 + 8 * u + 7) = τ (p' u)) ∧
    ∃ D : Nat → Prop, (∀ q, q < 12 → (D q → G' (29 + q) 7 = nI td ∧ ∃ v, place ≤ v ∧ v < n0 ∧ q = p v) ∧ (¬ D q → G' (29 + q) 7 = G (29 + q) 7)) ∧ ∀ b, b < 12 → (bit b tg' ↔ bit b tg ∨ ∃ q, q < 12 ∧ D q ∧ tb (τ q) b)

