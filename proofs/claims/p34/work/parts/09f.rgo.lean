def MST (h : zH) (m : Nat) (F : Nat → Nat → Int32) : zH := (zsz h, zk h, zn h, fun a => if m ≤ a ∧ a < m + 7 then F (a - m) else zi h a, zr h)
def MS (h : zH) (m : Nat) : Prop := zk h m = 10 ∧ (zr h m 1 = m + 1 ∧ zr h m 2 = m + 2 ∧ zr h m 3 = m + 3 ∧ zr h m 4 = m + 4 ∧ zr h m 6 = m + 5 ∧ zr h m 8 = m + 6) ∧ (zk h (m + 1) = 20 ∧ zk h (m + 2) = 20 ∧ zk h (m + 3) = 20 ∧ zk h (m + 4) = 20 ∧ zk h (m + 5) = 20 ∧ zk h (m + 6) = 20) ∧ (zn h (m + 1) = 1301 ∧ zn h (m + 2) = 1301 ∧ zn h (m + 3) = 433 ∧ zn h (m + 4) = 6505 ∧ zn h (m + 5) = 140 ∧ zn h (m + 6) = 4)
theorem zk_MST (h : zH) (m : Nat) (F : Nat → Nat → Int32) : zk (MST h m F) = zk h := rfl
theorem zn_MST (h : zH) (m : Nat) (F : Nat → Nat → Int32) : zn (MST h m F) = zn h := rfl
theorem zr_MST (h : zH) (m : Nat) (F : Nat → Nat → Int32) : zr (MST h m F) = zr h := rfl
theorem zsz_MST (h : zH) (m : Nat) (F : Nat → Nat → Int32) : zsz (MST h m F) = zsz h := rfl
theorem zi_MST (h : zH) {m j : Nat} (F : Nat → Nat → Int32) (hj : j < 7) : zi (MST h m F) (m + j) = F j := by
  show (if m ≤ m + j ∧ m + j < m + 7 then F (m + j - m) else zi h (m + j)) = F j
  rw [if_pos (by omega), Nat.add_sub_cancel_left]
theorem zi_MST0 (h : zH) (m : Nat) (F : Nat → Nat → Int32) : zi (MST h m F) m = F 0 := zi_MST (j := 0) h F (by omega)
theorem zi_MSTN (h : zH) {m a : Nat} (F : Nat → Nat → Int32) (ha : a < m ∨ m + 7 ≤ a) : zi (MST h m F) a = zi h a := if_neg (by omega)
theorem zpa_MST (h : zH) {m j : Nat} (F : Nat → Nat → Int32) (f : Nat → Int32) (hj : j < 7) : zpa (MST h m F) (m + j) f = MST h m (zup F j f) := by
  have : zup (zi (MST h m F)) (m + j) f = zi (MST h m (zup F j f)) := by
    funext a
    by_cases ha : a = m + j
    · subst ha; rw [zup_eq rfl, zi_MST _ _ hj, zup_eq rfl]
    · rw [zup_ne ha]
      by_cases hb : m ≤ a ∧ a < m + 7
      · obtain ⟨i, rfl⟩ : ∃ i, a = m + i := ⟨a - m, by omega⟩
        rw [zi_MST _ _ (by omega), zi_MST _ _ (by omega), zup_ne (by omega)]
      · rw [zi_MSTN _ _ (by omega), zi_MSTN _ _ (by omega)]
  unfold zpa
  rw [this]; rfl
theorem zpa_MST0 (h : zH) (m : Nat) (F : Nat → Nat → Int32) (f : Nat → Int32) : zpa (MST h m F) m f = MST h m (zup F 0 f) := zpa_MST (j := 0) h F f (by omega)
theorem MST_MST (h : zH) (m : Nat) (F G : Nat → Nat → Int32) : MST (MST h m F) m G = MST h m G := by
  have : zi (MST (MST h m F) m G) = zi (MST h m G) := by
    funext a
    by_cases hb : m ≤ a ∧ a < m + 7
    · obtain ⟨i, rfl⟩ : ∃ i, a = m + i := ⟨a - m, by omega⟩
      rw [zi_MST _ _ (by omega), zi_MST _ _ (by omega)]
    · rw [zi_MSTN _ _ (by omega), zi_MSTN _ _ (by omega), zi_MSTN _ _ (by omega)]
  show (_, _, _, zi (MST (MST h m F) m G), _) = _
  rw [this]; rfl
theorem MST_self (h : zH) (m : Nat) : MST h m (fun j => zi h (m + j)) = h := by
  have : zi (MST h m (fun j => zi h (m + j))) = zi h := by
    funext a
    by_cases hb : m ≤ a ∧ a < m + 7
    · obtain ⟨i, rfl⟩ : ∃ i, a = m + i := ⟨a - m, by omega⟩
      rw [zi_MST _ _ (by omega)]
    · rw [zi_MSTN _ _ (by omega)]
  show (_, _, _, zi (MST h m (fun j => zi h (m + j))), _) = _
  rw [this]; rfl
/-! going through the turns of today -/
def gT (nk : Nat) : Nat → (Nat → Int32) → Nat → Nat → Int32 → Int32 → (Nat → Int32) × Int32 × Int32
  | 0, r, _, _, mi, tg => (r, mi, tg)
  | d + 1, r, t, n, mi, tg =>
    if ¬ r (337 + 8 * t + 2) = r 0 then gT nk d r (t + 1) n mi tg
    else if ¬ cL r (ixx (r (337 + 8 * t + 1))) (ixx (r 0)) then gT nk d (zup (zup r (337 + 8 * t + 2) (r 0 + nI 1)) (221 + 20 * ixx (r (337 + 8 * t + 1)) + 4) (nI 1)) (t + 1) n (mi + nI 1) tg
    else if cbd r t nk then gT nk d (rmT (zup (dT r t) 4 (dT r t 4 + nI 1)) t n) t (n - 1) mi (tg ||| (nI 1 <<< (r (337 + 8 * t + 7) &&& 31)))
    else gT nk d (rmT (zup r 5 (r 5 + nI 1)) t n) t (n - 1) mi tg
theorem TWc {r r' : Nat → Int32} {t t' nr nk : Nat} (h : ∀ f, f < 8 → r' (337 + 8 * t' + f) = r (337 + 8 * t + f)) (hT : TW r t nr nk) : TW r' t' nr nk := by
  unfold TW
  rw [h 1 (by omega), h 2 (by omega), h 3 (by omega), h 4 (by omega), h 0 (by omega), h 5 (by omega)]
  exact hT
theorem rmT_at {r : Nat → Int32} {t n k : Nat} (h : k ≠ 3) (h2 : k < 337 + 8 * t) : rmT r t n k = r k := by
  unfold rmT; rw [if_neg h, if_neg (by omega)]
theorem rmT_3 {r : Nat → Int32} {t n : Nat} : rmT r t n 3 = nI (n - 1) := if_pos rfl
theorem rmT_sh {r : Nat → Int32} {t n u f : Nat} (hf : f < 8) (h1 : t ≤ u) (h2 : u < n - 1) : rmT r t n (337 + 8 * u + f) = r (337 + 8 * (u + 1) + f) := by
  unfold rmT; rw [if_neg (by omega), if_pos (by omega)]
  congr 1; omega
theorem TW_rmT {r : Nat → Int32} {t n u nr nk : Nat} (h : ∀ u, u < n → TW r u nr nk) (hu : u < n - 1) : TW (rmT r t n) u nr nk := by
  by_cases hut : u < t
  · exact TWc (t := u) (fun f hf => rmT_at (by omega) (by omega)) (h u (by omega))
  · exact TWc (t := u + 1) (fun f hf => rmT_sh hf (by omega) hu) (h (u + 1) (by omega))
theorem ixx_lt {r : Nat → Int32} {k n : Nat} (h : ∃ i, i < n ∧ r k = nI i) (hn : n < 2147483648) : ixx (r k) < n := by
  obtain ⟨i, hi, e⟩ := h; rw [e, ixx_nI (by omega)]; exact hi
theorem dT_at {r : Nat → Int32} {t nr nk k : Nat} (hr : nr ≤ 3) (hk : nk ≤ 8) (hT : TW r t nr nk) (h : k < 221 ∨ 337 ≤ k) : dT r t k = r k := by
  obtain ⟨h1, -, hc, hg, hkd⟩ := hT
  have i1 := ixx_lt h1 (by omega)
  unfold dT
  split
  · rename_i h0
    rcases hkd with ⟨-, -, -, h5⟩ | ⟨h0', -⟩
    · have i2 := ixx_lt h5 (by omega)
      simp (disch := omega) only [zup_ne]
    · exact absurd h0 h0'
  · split
    · split
      · rfl
      · have i2 := ixx_lt (hg.resolve_left (by assumption)) (by omega)
        simp (disch := omega) only [zup_ne]
    · have i3 := ixx_lt (hc.resolve_left (by assumption)) (by omega)
      split
      · simp (disch := omega) only [zup_ne]
      · have i2 := ixx_lt (hg.resolve_left (by assumption)) (by omega)
        simp (disch := omega) only [zup_ne]
/-- what holds of a row of numbers while a day passes -/
def GI (r : Nat → Int32) (n nr nk td : Nat) : Prop := r 3 = nI n ∧ r 2 = nI nk ∧ r 0 = nI td ∧ (td < 199 ∧ n ≤ 12 ∧ nr ≤ 3 ∧ nk ≤ 8) ∧ ∀ u, u < n → TW r u nr nk
theorem GI_rm {r : Nat → Int32} {n nr nk td t : Nat} (h : GI r n nr nk td) (ht : t < n) : GI (rmT r t n) (n - 1) nr nk td := by
  obtain ⟨h3, h2, h0, hb, hT⟩ := h
  exact ⟨rmT_3, by rw [rmT_at (by omega) (by omega)]; exact h2, by rw [rmT_at (by omega) (by omega)]; exact h0, ⟨hb.1, by omega, hb.2.2⟩, fun u hu => TW_rmT hT hu⟩
theorem GI_up {r : Nat → Int32} {n nr nk td k : Nat} {x : Int32} (h : GI r n nr nk td) (hk : 4 ≤ k ∧ k < 337) : GI (zup r k x) n nr nk td := by
  obtain ⟨h3, h2, h0, hb, hT⟩ := h
  exact ⟨by rw [zup_ne (by omega)]; exact h3, by rw [zup_ne (by omega)]; exact h2, by rw [zup_ne (by omega)]; exact h0, hb, fun u hu => TWc (fun f hf => zup_ne (by omega)) (hT u hu)⟩
theorem GI_day {r : Nat → Int32} {n nr nk td t d : Nat} (h : GI r n nr nk td) (hd : d < 200) : GI (zup r (337 + 8 * t + 2) (nI d)) n nr nk td := by
  obtain ⟨h3, h2, h0, hb, hT⟩ := h
  refine ⟨by rw [zup_ne (by omega)]; exact h3, by rw [zup_ne (by omega)]; exact h2, by rw [zup_ne (by omega)]; exact h0, hb, fun u hu => ?_⟩
  have h5 := hT u hu
  by_cases e : u = t
  · subst e
    unfold TW at h5 ⊢
    simp (disch := omega) only [zup_eq, zup_ne]
    exact ⟨h5.1, ⟨d, hd, rfl⟩, h5.2.2⟩
  · exact TWc (fun f hf => zup_ne (by omega)) h5
theorem GI_dT {r : Nat → Int32} {n nr nk td t : Nat} (h : GI r n nr nk td) (ht : t < n) : GI (dT r t) n nr nk td := by
  obtain ⟨h3, h2, h0, hb, hT⟩ := h
  have e : ∀ k, k < 221 ∨ 337 ≤ k → dT r t k = r k := fun k hk => dT_at hb.2.2.1 hb.2.2.2 (hT t ht) hk
  exact ⟨by rw [e _ (by omega)]; exact h3, by rw [e _ (by omega)]; exact h2, by rw [e _ (by omega)]; exact h0, hb, fun u hu => TWc (fun f hf => e _ (by omega)) (hT u hu)⟩
theorem gfin {F F' : Nat → Nat → Int32} {j : Nat} {R : Nat → Int32} {T : Int32} (h1 : ∀ i, i ≠ 0 → i ≠ j → F' i = F i) (h2 : ∀ i, i ≠ 9 → F' 0 i = F 0 i) : zup (zup F' j R) 0 (zup (F' 0) 9 T) = zup (zup F j R) 0 (zup (F 0) 9 T) := by
  funext i
  by_cases hi : i = 0
  · subst hi
    rw [zup_eq rfl, zup_eq rfl]
    funext k
    by_cases hk : k = 9
    · rw [zup_eq hk, zup_eq hk]
    · rw [zup_ne hk, zup_ne hk, h2 k hk]
  · rw [zup_ne hi, zup_ne hi]
    by_cases hj : i = j
    · rw [zup_eq hj, zup_eq hj]
    · rw [zup_ne hj, zup_ne hj, h1 i hi hj]
theorem AR_MS {h : zH} {m j : Nat} (hm : MS h m) (hj : 1 ≤ j ∧ j ≤ 3) : AR h (m + j) := by
  obtain ⟨mk, ⟨mr1, mr2, mr3, mr4, mr6, mr8⟩, ⟨mk1, mk2, mk3, mk4, mk5, mk6⟩, ⟨mn1, mn2, mn3, mn4, mn5, mn6⟩⟩ := id hm
  rcases (show j = 1 ∨ j = 2 ∨ j = 3 by omega) with rfl | rfl | rfl <;> unfold AR <;> simp_all
