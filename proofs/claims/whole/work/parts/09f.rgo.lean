def MST (h : zH) (m : Nat) (F : Nat → Nat → Int32) : zH := (zsz h, zk h, zn h, fun a => if m ≤ a ∧ a < m + 7 then F (a - m) else zi h a, zr h)
def MS (h : zH) (m : Nat) : Prop := zk h m = 10 ∧ (zr h m 1 = m + 1 ∧ zr h m 2 = m + 2 ∧ zr h m 3 = m + 3 ∧ zr h m 4 = m + 4 ∧ zr h m 6 = m + 5 ∧ zr h m 8 = m + 6) ∧ (zk h (m + 1) = 20 ∧ zk h (m + 2) = 20 ∧ zk h (m + 3) = 20 ∧ zk h (m + 4) = 20 ∧ zk h (m + 5) = 20 ∧ zk h (m + 6) = 20) ∧ (zn h (m + 1) = 1301 ∧ zn h (m + 2) = 1301 ∧ zn h (m + 3) = 433 ∧ zn h (m + 4) = 6505 ∧ zn h (m + 5) = 140 ∧ zn h (m + 6) = 4)
theorem zk_MST (h : zH) (m : Nat) (F : Nat → Nat → Int32) : zk (MST h m F) = zk h := rfl
theorem zn_MST (h : zH) (m : Nat) (F : Nat → Nat → Int32) : zn (MST h m F) = zn h := rfl
theorem zr_MST (h : zH) (m : Nat) (F : Nat → Nat → Int32) : zr (MST h m F) = zr h := rfl
theorem zsz_MST (h : zH) (m : Nat) (F : Nat → Nat → Int32) : zsz (MST h m F) = zsz h := rfl
theorem zi_MST (h : zH) {m j : Nat} (F : Nat → Nat → Int32) (hj : j < 7) : zi (MST h m F) (m + j) = F j := by
  show (if m ≤ m + j ∧ m + j < m + 7 then F (m + j - m) else zi h (m + j)) = F j
  rw [if_pos (by omega), Nat.add_sub_cancel_left]
theorem zi_MST0 (h : zH) (m : Nat) (F : Nat → Nat → Int32) : zi (MST h m F) m = F 0 := zi_MST (j := 0) h F (by omega)
theorem zi_MSTN (h : zH) {m a : Nat} (F : Nat → Nat → Int32) (ha : a < m ∨ m + 7 ≤ a) : zi (MST h m F) a = zi h a := if_neg (by omega)
theorem zpa_MST (h : zH) {m j : Nat} (F : Nat → Nat → Int32) (f : Nat → Int32) (hj : j < 7) : zpa (MST h m F) (m + j) f = MST h m (zup F j f) := by
  have : zup (zi (MST h m F)) (m + j) f = zi (MST h m (zup F j f)) := by
    funext a
    by_cases ha : a = m + j
    · subst ha; rw [zup_eq rfl, zi_MST _ _ hj, zup_eq rfl]
    · rw [zup_ne ha]
      by_cases hb : m ≤ a ∧ a < m + 7
      · obtain ⟨i, rfl⟩ : ∃ i, a = m + i := ⟨a - m, by omega⟩
        rw [zi_MST _ _ (by omega), zi_MST _ _ (by omega), zup_ne (by omega)]
      · rw [zi_MSTN _ _ (by omega), zi_MSTN _ _ (by omega)]
  unfold zpa
  rw [this]; rfl
theorem zpa_MST0 (h : zH) (m : Nat) (F : Nat → Nat → Int32) (f : Nat → Int32) : zpa (MST h m F) m f = MST h m (zup F 0 f) := zpa_MST (j := 0) h F f (by omega)
theorem MST_MST (h : zH) (m : Nat) (F G : Nat → Nat → Int32) : MST (MST h m F) m G = MST h m G := by
  have : zi (MST (MST h m F) m G) = zi (MST h m G) := by
    funext a
    by_cases hb : m ≤ a ∧ a < m + 7
    · obtain ⟨i, rfl⟩ : ∃ i, a = m + i := ⟨a - m, by omega⟩
      rw [zi_MST _ _ (by omega), zi_MST _ _ (by omega)]
    · rw [zi_MSTN _ _ (by omega), zi_MSTN _ _ (by omega), zi_MSTN _ _ (by omega)]
  show (_, _, _, zi (MST (MST h m F) m G), _) = _
  rw [this]; rfl
theorem MST_self (h : zH) (m : Nat) : MST h m (fun j => zi h (m + j)) = h := by
  have : zi (MST h m (fun j => zi h (m + j))) = zi h := by
    funext a
    by_cases hb : m ≤ a ∧ a < m + 7
    · obtain ⟨i, rfl⟩ : ∃ i, a = m + i := ⟨a - m, by omega⟩
      rw [zi_MST _ _ (by omega)]
    · rw [zi_MSTN _ _ (by omega)]
  show (_, _, _, zi (MST h m (fun j => zi h (m + j))), _) = _
  rw [this]; rfl
/-! going through the turns of today -/
def gT (nk : Nat) : Nat → (Nat → Int32) → Nat → Nat → Int32 → Int32 → (Nat → Int32) × Int32 × Int32
  | 0, r, _, _, mi, tg => (r, mi, tg)
  | d + 1, r, t, n, mi, tg =>
    if ¬ r (337 + 8 * t + 2) = r 0 then gT nk d r (t + 1) n mi tg
    else if ¬ cL r (ixx (r (337 + 8 * t + 1))) (ixx (r 0)) then gT nk d (zup (zup r (337 + 8 * t + 2) (r 0 + nI 1)) (221 + 20 * ixx (r (337 + 8 * t + 1)) + 4) (nI 1)) (t + 1) n (mi + nI 1) tg
    else if cbd r t nk then gT nk d (rmT (zup (dT r t) 4 (dT r t 4 + nI 1)) t n) t (n - 1) mi (tg ||| (nI 1 <<< (r (337 + 8 * t + 7) &&& 31)))
    else gT nk d (rmT (zup r 5 (r 5 + nI 1)) t n) t (n - 1) mi tg
theorem TWc {r r' : Nat → Int32} {t t' nr nk : Nat} (h : ∀ f, f < 8 → r' (337 + 8 * t' + f) = r (337 + 8 * t + f)) (hT : TW r t nr nk) : TW r' t' nr nk := by
  unfold TW
  rw [h 1 (by omega), h 2 (by omega), h 3 (by omega), h 4 (by omega), h 0 (by omega), h 5 (by omega)]
  exact hT
theorem rmT_at {r : Nat → Int32} {t n k : Nat} (h : k ≠ 3) (h2 : k < 337 + 8 * t) : rmT r t n k = r k := by
  unfold rmT; rw [if_neg h, if_neg (by omega)]
theorem rmT_3 {r : Nat → Int32} {t n : Nat} : rmT r t n 3 = nI (n - 1) := if_pos rfl
theorem rmT_sh {r : Nat → Int32} {t n u f : Nat} (hf : f < 8) (h1 : t ≤ u) (h2 : u < n - 1) : rmT r t n (337 + 8 * u + f) = r (337 + 8 * (u + 1) + f) := by
  unfold rmT; rw [if_neg (by omega), if_pos (by omega)]
  congr 1; omega
theorem TW_rmT {r : Nat → Int32} {t n u nr nk : Nat} (h : ∀ u, u < n → TW r u nr nk) (hu : u < n - 1) : TW (rmT r t n) u nr nk := by
  by_cases hut : u < t
  · exact TWc (t := u) (fun f hf => rmT_at (by omega) (by omega)) (h u (by omega))
  · exact TWc (t := u + 1) (fun f hf => rmT_sh hf (by omega) hu) (h (u + 1) (by omega))
theorem ixx_lt {r : Nat → Int32} {k n : Nat} (h : ∃ i, i < n ∧ r k = nI i) (hn : n < 2147483648) : ixx (r k) < n := by
  obtain ⟨i, hi, e⟩ := h; rw [e, ixx_nI (by omega)]; exact hi
theorem dT_at {r : Nat → Int32} {t nr nk k : Nat} (hr : nr ≤ 3) (hk : nk ≤ 8) (hT : TW r t nr nk) (h : k < 221 ∨ 337 ≤ k) : dT r t k = r k := by
  obtain ⟨h1, -, hc, hg, hkd⟩ := hT
  have i1 := ixx_lt h1 (by omega)
  unfold dT
  split
  · rename_i h0
    rcases hkd with ⟨-, -, -, h5⟩ | ⟨h0', -⟩
    · have i2 := ixx_lt h5 (by omega)
      simp (disch := omega) only [zup_ne]
    · exact absurd h0 h0'
  · split
    · split
      · rfl
      · have i2 := ixx_lt (hg.resolve_left (by assumption)) (by omega)
        simp (disch := omega) only [zup_ne]
    · have i3 := ixx_lt (hc.resolve_left (by assumption)) (by omega)
      split
      · simp (disch := omega) only [zup_ne]
      · have i2 := ixx_lt (hg.resolve_left (by assumption)) (by omega)
        simp (disch := omega) only [zup_ne]
/-- what holds of a row of numbers while a day passes -/
def GI (r : Nat → Int32) (n nr nk td : Nat) : Prop := r 3 = nI n ∧ r 2 = nI nk ∧ r 0 = nI td ∧ (td < 199 ∧ n ≤ 12 ∧ nr ≤ 3 ∧ nk ≤ 8) ∧ ∀ u, u < n → TW r u nr nk
theorem GI_rm {r : Nat → Int32} {n nr nk td t : Nat} (h : GI r n nr nk td) (ht : t < n) : GI (rmT r t n) (n - 1) nr nk td := by
  obtain ⟨h3, h2, h0, hb, hT⟩ := h
  exact ⟨rmT_3, by rw [rmT_at (by omega) (by omega)]; exact h2, by rw [rmT_at (by omega) (by omega)]; exact h0, ⟨hb.1, by omega, hb.2.2⟩, fun u hu => TW_rmT hT hu⟩
theorem GI_up {r : Nat → Int32} {n nr nk td k : Nat} {x : Int32} (h : GI r n nr nk td) (hk : 4 ≤ k ∧ k < 337) : GI (zup r k x) n nr nk td := by
  obtain ⟨h3, h2, h0, hb, hT⟩ := h
  exact ⟨by rw [zup_ne (by omega)]; exact h3, by rw [zup_ne (by omega)]; exact h2, by rw [zup_ne (by omega)]; exact h0, hb, fun u hu => TWc (fun f hf => zup_ne (by omega)) (hT u hu)⟩
theorem GI_day {r : Nat → Int32} {n nr nk td t d : Nat} (h : GI r n nr nk td) (hd : d < 200) : GI (zup r (337 + 8 * t + 2) (nI d)) n nr nk td := by
  obtain ⟨h3, h2, h0, hb, hT⟩ := h
  refine ⟨by rw [zup_ne (by omega)]; exact h3, by rw [zup_ne (by omega)]; exact h2, by rw [zup_ne (by omega)]; exact h0, hb, fun u hu => ?_⟩
  have h5 := hT u hu
  by_cases e : u = t
  · subst e
    unfold TW at h5 ⊢
    simp (disch := omega) only [zup_eq, zup_ne]
    exact ⟨h5.1, ⟨d, hd, rfl⟩, h5.2.2⟩
  · exact TWc (fun f hf => zup_ne (by omega)) h5
theorem GI_dT {r : Nat → Int32} {n nr nk td t : Nat} (h : GI r n nr nk td) (ht : t < n) : GI (dT r t) n nr nk td := by
  obtain ⟨h3, h2, h0, hb, hT⟩ := h
  have e : ∀ k, k < 221 ∨ 337 ≤ k → dT r t k = r k := fun k hk => dT_at hb.2.2.1 hb.2.2.2 (hT t ht) hk
  exact ⟨by rw [e _ (by omega)]; exact h3, by rw [e _ (by omega)]; exact h2, by rw [e _ (by omega)]; exact h0, hb, fun u hu => TWc (fun f hf => e _ (by omega)) (hT u hu)⟩
theorem gfin {F F' : Nat → Nat → Int32} {j : Nat} {R : Nat → Int32} {T : Int32} (h1 : ∀ i, i ≠ 0 → i ≠ j → F' i = F i) (h2 : ∀ i, i ≠ 9 → F' 0 i = F 0 i) : zup (zup F' j R) 0 (zup (F' 0) 9 T) = zup (zup F j R) 0 (zup (F 0) 9 T) := by
  funext i
  by_cases hi : i = 0
  · subst hi
    rw [zup_eq rfl, zup_eq rfl]
    funext k
    by_cases hk : k = 9
    · rw [zup_eq hk, zup_eq hk]
    · rw [zup_ne hk, zup_ne hk, h2 k hk]
  · rw [zup_ne hi, zup_ne hi]
    by_cases hj : i = j
    · rw [zup_eq hj, zup_eq hj]
    · rw [zup_ne hj, zup_ne hj, h1 i hi hj]
theorem AR_MS {h : zH} {m j : Nat} (hm : MS h m) (hj : 1 ≤ j ∧ j ≤ 3) : AR h (m + j) := by
  obtain ⟨mk, ⟨mr1, mr2, mr3, mr4, mr6, mr8⟩, ⟨mk1, mk2, mk3, mk4, mk5, mk6⟩, ⟨mn1, mn2, mn3, mn4, mn5, mn6⟩⟩ := id hm
  rcases (show j = 1 ∨ j = 2 ∨ j = 3 by omega) with rfl | rfl | rfl <;> unfold AR <;> simp_all
theorem l_goThrough {E : zE} {Q : Int32 → zH → Prop} {m j nr nk td : Nat} {h : zH} (hm : MS h m) (hj : 1 ≤ j ∧ j ≤ 3) {k' n' : Nat} (d : Nat) : ∀ (F : Nat → Nat → Int32) (t n : Nat) (mi : Int32) (l4 l5 : Option zV), t + d = n → GI (F j) n nr nk td →
    Q (gT nk d (F j) t n mi (F 0 9)).2.1 (MST h m (zup (zup F j (gT nk d (F j) t n mi (F 0 9)).1) 0 (zup (F 0) 9 (gT nk d (F j) t n mi (F 0 9)).2.2))) →
    zJ E mX9_goThrough (zQi Q) 4 [some (.inr m), some (.inr (m + j)), some (.inl mi), some (.inl (nI t)), l4, l5] [] (MST h m F) k' n' := by
  have har := AR_MS hm hj
  obtain ⟨a1, a2, a3⟩ := id har
  have mk := hm.1
  induction d with
  | zero =>
    intro F t n mi l4 l5 ht hG hq
    obtain ⟨h3, h2, h0, hb, hT⟩ := hG
    obtain rfl : t = n := by omega
    simp only [gT, zup_self] at hq
    (refine jX9_goThrough 200 ?_; simp (disch := omega) only [↓wX9_goThrough_0, ↓wX9_goThrough_1, ↓wX9_goThrough_2, ↓wX9_goThrough_3, ↓wX9_goThrough_4, ↓wX9_goThrough_5, ↓wX9_goThrough_6, ↓wX9_goThrough_7, ↓wX9_goThrough_8, ↓wX9_goThrough_11, ↓wX9_goThrough_12, ↓wX9_goThrough_13, ↓wX9_goThrough_14, ↓wX9_goThrough_17, ↓wX9_goThrough_19, ↓wX9_goThrough_20, ↓wX9_goThrough_21, ↓wX9_goThrough_22, ↓wX9_goThrough_25, ↓wX9_goThrough_26, ↓wX9_goThrough_27, ↓wX9_goThrough_28, ↓wX9_goThrough_31, ↓wX9_goThrough_34, ↓wX9_goThrough_37, ↓wX9_goThrough_38, ↓wX9_goThrough_40, ↓wX9_goThrough_41, ↓wX9_goThrough_42, ↓wX9_goThrough_43, ↓wX9_goThrough_46, ↓wX9_goThrough_49, ↓wX9_goThrough_50, ↓wX9_goThrough_51, ↓wX9_goThrough_52, ↓wX9_goThrough_53, ↓wX9_goThrough_54, ↓wX9_goThrough_55, ↓wX9_goThrough_56, ↓wX9_goThrough_57, ↓wX9_goThrough_60, ↓wX9_goThrough_61, ↓wX9_goThrough_64, ↓wX9_goThrough_66, ↓wX9_goThrough_68, ↓wX9_goThrough_69, ↓wX9_goThrough_70, ↓wX9_goThrough_71, ↓wX9_goThrough_72, ↓wX9_goThrough_73, ↓wX9_goThrough_74, ↓wX9_goThrough_77, ↓wX9_goThrough_80, ↓wX9_goThrough_83, ↓wX9_goThrough_84, ↓wX9_goThrough_85, ↓wX9_goThrough_88, ↓wX9_goThrough_90, ↓wX9_goThrough_92, ↓wX9_goThrough_95, ↓wX9_goThrough_96, ↓wX9_goThrough_97, ↓wX9_goThrough_100, ↓wX9_goThrough_101, ↓wX9_goThrough_102, ↓wX9_goThrough_105, ↓wX9_goThrough_106, ↓wX9_goThrough_107, ↓wX9_goThrough_108, ↓wX9_goThrough_110, ↓wX9_goThrough_113, ↓wX9_goThrough_114, ↓wX9_goThrough_115, ↓wX9_goThrough_118, ↓wX9_goThrough_119, ↓wX9_goThrough_121, ↓wX9_goThrough_124, ↓wX9_goThrough_125, ↓wX9_goThrough_128, ↓wX9_goThrough_129, ↓wX9_goThrough_130, ↓wX9_goThrough_131, ↓wX9_goThrough_132, ↓wX9_goThrough_133, ↓wX9_goThrough_134, ↓wX9_goThrough_135, ↓wX9_goThrough_136, ↓wX9_goThrough_139, ↓wX9_goThrough_142, ↓wX9_goThrough_143, zQi_def, zQa_def, zQv_def, nI00, nI10, nI11, nI01, true_or, or_true, false_or, or_false, eq_self, true_implies, false_implies, not_true_eq_false, not_false_eq_true, zc9, zc1, zc2, zc3, zc1000, nI_m9, nI_add, pk_mul, ix_nI, vpT, zk_zpi, zn_zpi, zr_zpi, zk_zpa, zn_zpa, zr_zpa, zsz_zpi, zsz_zpa, zi_zpa, zpi_pa, zpa_zpa, true_and, and_true, and_self, zk_MST, zn_MST, zr_MST, zsz_MST, zi_MST, zi_MST0, zpa_MST, zpa_MST0, zup_eq, zup_ne, h3, nI_leI, a1])
    repeat' (first | (with_reducible assumption) | (with_reducible decide) | (simp (disch := omega) only [nI00, nI10, nI11, nI01, true_or, or_true, false_or, or_false, eq_self, true_implies, false_implies, not_true_eq_false, not_false_eq_true, zc9, zc1, zc2, zc3, zc1000, nI_m9, nI_add, pk_mul, ix_nI, vpT, zk_zpi, zn_zpi, zr_zpi, zk_zpa, zn_zpa, zr_zpa, zsz_zpi, zsz_zpa, zi_zpa, zpi_pa, zpa_zpa, true_and, and_true, and_self, Nat.le_refl]) | (with_reducible apply And.intro) | (with_reducible intro _) | (refine c_in ?_) | (refine c_less ?_) | (refine c_ofRock (by assumption) (by omega) (by omega) ?_) | (refine c_ofKeeper (by assumption) (by omega) (by omega) ?_) | (refine c_setKeeper (by assumption) (by omega) (by omega) ?_) | (refine c_ofTurn (by assumption) (by omega) (by omega) ?_) | (refine c_setTurn (by assumption) (by omega) (by omega) ?_) | (refine c_storeAt ?_))
  | succ d ih =>
    intro F t n mi l4 l5 ht hG hq
    obtain ⟨h3, h2, h0, hb, hT⟩ := id hG
    obtain ⟨⟨i, hi, hat⟩, ⟨dd, hdd, hday⟩, hcom, hgo, hkd⟩ := id (hT t (by omega))
    have har' : AR (MST h m F) (m + j) := har
    have hle : ¬ n ≤ t := by omega
    have hcom' : F j (337 + 8 * t + 3) = -9 ∨ ∃ k, k < 8 ∧ F j (337 + 8 * t + 3) = nI k := hcom.imp id fun ⟨k, q1, q2⟩ => ⟨k, by omega, q2⟩
    have hgo' : F j (337 + 8 * t + 4) = -9 ∨ ∃ k, k < 8 ∧ F j (337 + 8 * t + 4) = nI k := hgo.imp id fun ⟨k, q1, q2⟩ => ⟨k, by omega, q2⟩
    have hdt : ∀ k, k < 221 ∨ 337 ≤ k → dT (F j) t k = F j k := fun k hk => dT_at hb.2.2.1 hb.2.2.2 (hT t (by omega)) hk
    have hT3 := hdt 3 (by omega)
    have hT9 := hdt (337 + 8 * t + 7) (by omega)
    have hT4 := hdt 4 (by omega)
    by_cases hd : dd = td
    · subst hd
      by_cases hL : cL (F j) i dd
      · have hL' := hL
        unfold cL at hL'
        by_cases hC : cbd (F j) t nk
        · unfold gT at hq
          simp (disch := omega) only [hday, h0, hat, ixx_nI, nI_eq, eq_self, not_true_eq_false, if_false, if_true, and_self, eq_true hL, eq_true hC] at hq
          (refine jX9_goThrough 200 ?_; simp (disch := omega) only [↓wX9_goThrough_0, ↓wX9_goThrough_1, ↓wX9_goThrough_2, ↓wX9_goThrough_3, ↓wX9_goThrough_4, ↓wX9_goThrough_5, ↓wX9_goThrough_6, ↓wX9_goThrough_7, ↓wX9_goThrough_8, ↓wX9_goThrough_11, ↓wX9_goThrough_12, ↓wX9_goThrough_13, ↓wX9_goThrough_14, ↓wX9_goThrough_17, ↓wX9_goThrough_19, ↓wX9_goThrough_20, ↓wX9_goThrough_21, ↓wX9_goThrough_22, ↓wX9_goThrough_25, ↓wX9_goThrough_26, ↓wX9_goThrough_27, ↓wX9_goThrough_28, ↓wX9_goThrough_31, ↓wX9_goThrough_34, ↓wX9_goThrough_37, ↓wX9_goThrough_38, ↓wX9_goThrough_40, ↓wX9_goThrough_41, ↓wX9_goThrough_42, ↓wX9_goThrough_43, ↓wX9_goThrough_46, ↓wX9_goThrough_49, ↓wX9_goThrough_50, ↓wX9_goThrough_51, ↓wX9_goThrough_52, ↓wX9_goThrough_53, ↓wX9_goThrough_54, ↓wX9_goThrough_55, ↓wX9_goThrough_56, ↓wX9_goThrough_57, ↓wX9_goThrough_60, ↓wX9_goThrough_61, ↓wX9_goThrough_64, ↓wX9_goThrough_66, ↓wX9_goThrough_68, ↓wX9_goThrough_69, ↓wX9_goThrough_70, ↓wX9_goThrough_71, ↓wX9_goThrough_72, ↓wX9_goThrough_73, ↓wX9_goThrough_74, ↓wX9_goThrough_77, ↓wX9_goThrough_80, ↓wX9_goThrough_83, ↓wX9_goThrough_84, ↓wX9_goThrough_85, ↓wX9_goThrough_88, ↓wX9_goThrough_90, ↓wX9_goThrough_92, ↓wX9_goThrough_95, ↓wX9_goThrough_96, ↓wX9_goThrough_97, ↓wX9_goThrough_100, ↓wX9_goThrough_101, ↓wX9_goThrough_102, ↓wX9_goThrough_105, ↓wX9_goThrough_106, ↓wX9_goThrough_107, ↓wX9_goThrough_108, ↓wX9_goThrough_110, ↓wX9_goThrough_113, ↓wX9_goThrough_114, ↓wX9_goThrough_115, ↓wX9_goThrough_118, ↓wX9_goThrough_119, ↓wX9_goThrough_121, ↓wX9_goThrough_124, ↓wX9_goThrough_125, ↓wX9_goThrough_128, ↓wX9_goThrough_129, ↓wX9_goThrough_130, ↓wX9_goThrough_131, ↓wX9_goThrough_132, ↓wX9_goThrough_133, ↓wX9_goThrough_134, ↓wX9_goThrough_135, ↓wX9_goThrough_136, ↓wX9_goThrough_139, ↓wX9_goThrough_142, ↓wX9_goThrough_143, zQi_def, zQa_def, zQv_def, nI00, nI10, nI11, nI01, true_or, or_true, false_or, or_false, eq_self, true_implies, false_implies, not_true_eq_false, not_false_eq_true, zc9, zc1, zc2, zc3, zc1000, nI_m9, nI_add, pk_mul, ix_nI, vpT, zk_zpi, zn_zpi, zr_zpi, zk_zpa, zn_zpa, zr_zpa, zsz_zpi, zsz_zpa, zi_zpa, zpi_pa, zpa_zpa, true_and, and_true, and_self, zk_MST, zn_MST, zr_MST, zsz_MST, zi_MST, zi_MST0, zpa_MST, zpa_MST0, zup_eq, zup_ne, h3, nI_leI, a1, hle, hday, h0, hat, nI_eq])
          repeat' (first | (with_reducible assumption) | (with_reducible decide) | (simp (disch := omega) only [nI00, nI10, nI11, nI01, true_or, or_true, false_or, or_false, eq_self, true_implies, false_implies, not_true_eq_false, not_false_eq_true, zc9, zc1, zc2, zc3, zc1000, nI_m9, nI_add, pk_mul, ix_nI, vpT, zk_zpi, zn_zpi, zr_zpi, zk_zpa, zn_zpa, zr_zpa, zsz_zpi, zsz_zpa, zi_zpa, zpi_pa, zpa_zpa, true_and, and_true, and_self, zk_MST, zn_MST, zr_MST, zsz_MST, zi_MST, zi_MST0, zpa_MST, zpa_MST0, zup_eq, zup_ne, h3, nI_leI, a1, hle, hday, h0, hat, nI_eq, zb_eq0, hL', mk, hT9, hT4]) | (with_reducible apply And.intro) | (with_reducible intro _) | (refine c_in ?_) | (refine c_less ?_) | (refine c_ofRock (by assumption) (by omega) (by omega) ?_) | (refine c_ofKeeper (by assumption) (by omega) (by omega) ?_) | (refine c_setKeeper (by assumption) (by omega) (by omega) ?_) | (refine c_ofTurn (by assumption) (by omega) (by omega) ?_) | (refine c_setTurn (by assumption) (by omega) (by omega) ?_) | (refine c_storeAt ?_) | (refine c_canLand (i := i) har' (by omega) (by omega) ?_) | (refine c_canBeDone (i := i) har' (n := nk) (by omega) (by simp (disch := omega) only [zi_MST]; exact h2) (by omega) (by omega) (by simp (disch := omega) only [zi_MST]; exact hat) (by simp (disch := omega) only [zi_MST]; exact hcom') (by simp (disch := omega) only [zi_MST]; exact hgo') (fun _ => ?_) (fun q => absurd hC (by simp (disch := omega) only [zi_MST] at q; exact q))) | (refine c_doTurn har' (nr := nr) (nk := nk) (by omega) (by omega) (by omega) (by simp (disch := omega) only [zi_MST]; exact hT t (by omega)) ?_) | (refine c_removeTurn (n := n) har (by omega) (by omega) (by simp (disch := omega) only [zk_MST, zn_MST, zr_MST, zsz_MST, zi_MST, zi_MST0, zpa_MST, zpa_MST0, zup_eq, zup_ne, hT3]; exact h3) ?_))
          simp only [hT4] at hq
          refine ih _ t (n - 1) _ _ _ (by omega) ?_ ?_
          · simp (disch := omega) only [zup_eq, zup_ne]
            exact GI_rm (GI_up (GI_dT hG (by omega)) (by omega)) (by omega)
          · rw [gfin (F := F) (F' := zup (zup (zup (zup F j (dT (F j) t)) 0 (zup (F 0) 9 (F 0 9 ||| nI 1 <<< (F j (337 + 8 * t + 7) &&& 31)))) j (zup (dT (F j) t) 4 (F j 4 + nI 1))) j (rmT (zup (dT (F j) t) 4 (F j 4 + nI 1)) t n)) (fun q q1 q2 => by simp (disch := omega) only [zup_ne]) (fun q q1 => by simp (disch := omega) only [zup_eq, zup_ne])]
            simp (disch := omega) only [zup_eq, zup_ne]
            exact hq
        · unfold gT at hq
          simp (disch := omega) only [hday, h0, hat, ixx_nI, nI_eq, eq_self, not_true_eq_false, if_false, if_true, and_self, eq_true hL, eq_false hC] at hq
          (refine jX9_goThrough 200 ?_; simp (disch := omega) only [↓wX9_goThrough_0, ↓wX9_goThrough_1, ↓wX9_goThrough_2, ↓wX9_goThrough_3, ↓wX9_goThrough_4, ↓wX9_goThrough_5, ↓wX9_goThrough_6, ↓wX9_goThrough_7, ↓wX9_goThrough_8, ↓wX9_goThrough_11, ↓wX9_goThrough_12, ↓wX9_goThrough_13, ↓wX9_goThrough_14, ↓wX9_goThrough_17, ↓wX9_goThrough_19, ↓wX9_goThrough_20, ↓wX9_goThrough_21, ↓wX9_goThrough_22, ↓wX9_goThrough_25, ↓wX9_goThrough_26, ↓wX9_goThrough_27, ↓wX9_goThrough_28, ↓wX9_goThrough_31, ↓wX9_goThrough_34, ↓wX9_goThrough_37, ↓wX9_goThrough_38, ↓wX9_goThrough_40, ↓wX9_goThrough_41, ↓wX9_goThrough_42, ↓wX9_goThrough_43, ↓wX9_goThrough_46, ↓wX9_goThrough_49, ↓wX9_goThrough_50, ↓wX9_goThrough_51, ↓wX9_goThrough_52, ↓wX9_goThrough_53, ↓wX9_goThrough_54, ↓wX9_goThrough_55, ↓wX9_goThrough_56, ↓wX9_goThrough_57, ↓wX9_goThrough_60, ↓wX9_goThrough_61, ↓wX9_goThrough_64, ↓wX9_goThrough_66, ↓wX9_goThrough_68, ↓wX9_goThrough_69, ↓wX9_goThrough_70, ↓wX9_goThrough_71, ↓wX9_goThrough_72, ↓wX9_goThrough_73, ↓wX9_goThrough_74, ↓wX9_goThrough_77, ↓wX9_goThrough_80, ↓wX9_goThrough_83, ↓wX9_goThrough_84, ↓wX9_goThrough_85, ↓wX9_goThrough_88, ↓wX9_goThrough_90, ↓wX9_goThrough_92, ↓wX9_goThrough_95, ↓wX9_goThrough_96, ↓wX9_goThrough_97, ↓wX9_goThrough_100, ↓wX9_goThrough_101, ↓wX9_goThrough_102, ↓wX9_goThrough_105, ↓wX9_goThrough_106, ↓wX9_goThrough_107, ↓wX9_goThrough_108, ↓wX9_goThrough_110, ↓wX9_goThrough_113, ↓wX9_goThrough_114, ↓wX9_goThrough_115, ↓wX9_goThrough_118, ↓wX9_goThrough_119, ↓wX9_goThrough_121, ↓wX9_goThrough_124, ↓wX9_goThrough_125, ↓wX9_goThrough_128, ↓wX9_goThrough_129, ↓wX9_goThrough_130, ↓wX9_goThrough_131, ↓wX9_goThrough_132, ↓wX9_goThrough_133, ↓wX9_goThrough_134, ↓wX9_goThrough_135, ↓wX9_goThrough_136, ↓wX9_goThrough_139, ↓wX9_goThrough_142, ↓wX9_goThrough_143, zQi_def, zQa_def, zQv_def, nI00, nI10, nI11, nI01, true_or, or_true, false_or, or_false, eq_self, true_implies, false_implies, not_true_eq_false, not_false_eq_true, zc9, zc1, zc2, zc3, zc1000, nI_m9, nI_add, pk_mul, ix_nI, vpT, zk_zpi, zn_zpi, zr_zpi, zk_zpa, zn_zpa, zr_zpa, zsz_zpi, zsz_zpa, zi_zpa, zpi_pa, zpa_zpa, true_and, and_true, and_self, zk_MST, zn_MST, zr_MST, zsz_MST, zi_MST, zi_MST0, zpa_MST, zpa_MST0, zup_eq, zup_ne, h3, nI_leI, a1, hle, hday, h0, hat, nI_eq])
          repeat' (first | (with_reducible assumption) | (with_reducible decide) | (simp (disch := omega) only [nI00, nI10, nI11, nI01, true_or, or_true, false_or, or_false, eq_self, true_implies, false_implies, not_true_eq_false, not_false_eq_true, zc9, zc1, zc2, zc3, zc1000, nI_m9, nI_add, pk_mul, ix_nI, vpT, zk_zpi, zn_zpi, zr_zpi, zk_zpa, zn_zpa, zr_zpa, zsz_zpi, zsz_zpa, zi_zpa, zpi_pa, zpa_zpa, true_and, and_true, and_self, zk_MST, zn_MST, zr_MST, zsz_MST, zi_MST, zi_MST0, zpa_MST, zpa_MST0, zup_eq, zup_ne, h3, nI_leI, a1, hle, hday, h0, hat, nI_eq, zb_eq0, hL', mk]) | (with_reducible apply And.intro) | (with_reducible intro _) | (refine c_in ?_) | (refine c_less ?_) | (refine c_ofRock (by assumption) (by omega) (by omega) ?_) | (refine c_ofKeeper (by assumption) (by omega) (by omega) ?_) | (refine c_setKeeper (by assumption) (by omega) (by omega) ?_) | (refine c_ofTurn (by assumption) (by omega) (by omega) ?_) | (refine c_setTurn (by assumption) (by omega) (by omega) ?_) | (refine c_storeAt ?_) | (refine c_canLand (i := i) har' (by omega) (by omega) ?_) | (refine c_canBeDone (i := i) har' (n := nk) (by omega) (by simp (disch := omega) only [zi_MST]; exact h2) (by omega) (by omega) (by simp (disch := omega) only [zi_MST]; exact hat) (by simp (disch := omega) only [zi_MST]; exact hcom') (by simp (disch := omega) only [zi_MST]; exact hgo') (fun q => absurd (by simp (disch := omega) only [zi_MST] at q; exact q) hC) (fun _ => ?_)) | (refine c_removeTurn (n := n) har (by omega) (by omega) (by simp (disch := omega) only [zk_MST, zn_MST, zr_MST, zsz_MST, zi_MST, zi_MST0, zpa_MST, zpa_MST0, zup_eq, zup_ne]; exact h3) ?_))
          refine ih _ t (n - 1) _ _ _ (by omega) ?_ ?_
          · simp (disch := omega) only [zup_eq, zup_ne]
            exact GI_rm (GI_up hG (by omega)) (by omega)
          · rw [gfin (F := F) (fun q q1 q2 => by simp (disch := omega) only [zup_ne]) (fun q q1 => by simp (disch := omega) only [zup_eq, zup_ne])]
            simp (disch := omega) only [zup_eq, zup_ne]
            exact hq
      · have hL' := hL
        unfold cL at hL'
        unfold gT at hq
        simp (disch := omega) only [hday, h0, hat, ixx_nI, nI_eq, eq_self, not_true_eq_false, if_false, hL, not_false_eq_true, if_true, nI_add] at hq
        (refine jX9_goThrough 200 ?_; simp (disch := omega) only [↓wX9_goThrough_0, ↓wX9_goThrough_1, ↓wX9_goThrough_2, ↓wX9_goThrough_3, ↓wX9_goThrough_4, ↓wX9_goThrough_5, ↓wX9_goThrough_6, ↓wX9_goThrough_7, ↓wX9_goThrough_8, ↓wX9_goThrough_11, ↓wX9_goThrough_12, ↓wX9_goThrough_13, ↓wX9_goThrough_14, ↓wX9_goThrough_17, ↓wX9_goThrough_19, ↓wX9_goThrough_20, ↓wX9_goThrough_21, ↓wX9_goThrough_22, ↓wX9_goThrough_25, ↓wX9_goThrough_26, ↓wX9_goThrough_27, ↓wX9_goThrough_28, ↓wX9_goThrough_31, ↓wX9_goThrough_34, ↓wX9_goThrough_37, ↓wX9_goThrough_38, ↓wX9_goThrough_40, ↓wX9_goThrough_41, ↓wX9_goThrough_42, ↓wX9_goThrough_43, ↓wX9_goThrough_46, ↓wX9_goThrough_49, ↓wX9_goThrough_50, ↓wX9_goThrough_51, ↓wX9_goThrough_52, ↓wX9_goThrough_53, ↓wX9_goThrough_54, ↓wX9_goThrough_55, ↓wX9_goThrough_56, ↓wX9_goThrough_57, ↓wX9_goThrough_60, ↓wX9_goThrough_61, ↓wX9_goThrough_64, ↓wX9_goThrough_66, ↓wX9_goThrough_68, ↓wX9_goThrough_69, ↓wX9_goThrough_70, ↓wX9_goThrough_71, ↓wX9_goThrough_72, ↓wX9_goThrough_73, ↓wX9_goThrough_74, ↓wX9_goThrough_77, ↓wX9_goThrough_80, ↓wX9_goThrough_83, ↓wX9_goThrough_84, ↓wX9_goThrough_85, ↓wX9_goThrough_88, ↓wX9_goThrough_90, ↓wX9_goThrough_92, ↓wX9_goThrough_95, ↓wX9_goThrough_96, ↓wX9_goThrough_97, ↓wX9_goThrough_100, ↓wX9_goThrough_101, ↓wX9_goThrough_102, ↓wX9_goThrough_105, ↓wX9_goThrough_106, ↓wX9_goThrough_107, ↓wX9_goThrough_108, ↓wX9_goThrough_110, ↓wX9_goThrough_113, ↓wX9_goThrough_114, ↓wX9_goThrough_115, ↓wX9_goThrough_118, ↓wX9_goThrough_119, ↓wX9_goThrough_121, ↓wX9_goThrough_124, ↓wX9_goThrough_125, ↓wX9_goThrough_128, ↓wX9_goThrough_129, ↓wX9_goThrough_130, ↓wX9_goThrough_131, ↓wX9_goThrough_132, ↓wX9_goThrough_133, ↓wX9_goThrough_134, ↓wX9_goThrough_135, ↓wX9_goThrough_136, ↓wX9_goThrough_139, ↓wX9_goThrough_142, ↓wX9_goThrough_143, zQi_def, zQa_def, zQv_def, nI00, nI10, nI11, nI01, true_or, or_true, false_or, or_false, eq_self, true_implies, false_implies, not_true_eq_false, not_false_eq_true, zc9, zc1, zc2, zc3, zc1000, nI_m9, nI_add, pk_mul, ix_nI, vpT, zk_zpi, zn_zpi, zr_zpi, zk_zpa, zn_zpa, zr_zpa, zsz_zpi, zsz_zpa, zi_zpa, zpi_pa, zpa_zpa, true_and, and_true, and_self, zk_MST, zn_MST, zr_MST, zsz_MST, zi_MST, zi_MST0, zpa_MST, zpa_MST0, zup_eq, zup_ne, h3, nI_leI, a1, hle, hday, h0, hat, nI_eq])
        repeat' (first | (with_reducible assumption) | (with_reducible decide) | (simp (disch := omega) only [nI00, nI10, nI11, nI01, true_or, or_true, false_or, or_false, eq_self, true_implies, false_implies, not_true_eq_false, not_false_eq_true, zc9, zc1, zc2, zc3, zc1000, nI_m9, nI_add, pk_mul, ix_nI, vpT, zk_zpi, zn_zpi, zr_zpi, zk_zpa, zn_zpa, zr_zpa, zsz_zpi, zsz_zpa, zi_zpa, zpi_pa, zpa_zpa, true_and, and_true, and_self, zk_MST, zn_MST, zr_MST, zsz_MST, zi_MST, zi_MST0, zpa_MST, zpa_MST0, zup_eq, zup_ne, h3, nI_leI, a1, hle, hday, h0, hat, nI_eq, zb_eq0, hL']) | (with_reducible apply And.intro) | (with_reducible intro _) | (refine c_in ?_) | (refine c_less ?_) | (refine c_ofRock (by assumption) (by omega) (by omega) ?_) | (refine c_ofKeeper (by assumption) (by omega) (by omega) ?_) | (refine c_setKeeper (by assumption) (by omega) (by omega) ?_) | (refine c_ofTurn (by assumption) (by omega) (by omega) ?_) | (refine c_setTurn (by assumption) (by omega) (by omega) ?_) | (refine c_storeAt ?_) | (refine c_canLand (i := i) har' (by omega) (by omega) ?_))
        refine ih _ (t + 1) n _ _ _ (by omega) ?_ ?_
        · simp (disch := omega) only [zup_eq]
          exact GI_up (GI_day hG (by omega)) (by omega)
        · rw [gfin (F := F) (fun q q1 q2 => by simp (disch := omega) only [zup_ne]) (fun q q1 => by simp (disch := omega) only [zup_eq, zup_ne])]
          simp (disch := omega) only [zup_eq, zup_ne]
          exact hq
    · unfold gT at hq
      simp (disch := omega) only [hday, h0, hat, ixx_nI, nI_eq, eq_self, not_true_eq_false, if_false, hd, not_false_eq_true, if_true] at hq
      (refine jX9_goThrough 200 ?_; simp (disch := omega) only [↓wX9_goThrough_0, ↓wX9_goThrough_1, ↓wX9_goThrough_2, ↓wX9_goThrough_3, ↓wX9_goThrough_4, ↓wX9_goThrough_5, ↓wX9_goThrough_6, ↓wX9_goThrough_7, ↓wX9_goThrough_8, ↓wX9_goThrough_11, ↓wX9_goThrough_12, ↓wX9_goThrough_13, ↓wX9_goThrough_14, ↓wX9_goThrough_17, ↓wX9_goThrough_19, ↓wX9_goThrough_20, ↓wX9_goThrough_21, ↓wX9_goThrough_22, ↓wX9_goThrough_25, ↓wX9_goThrough_26, ↓wX9_goThrough_27, ↓wX9_goThrough_28, ↓wX9_goThrough_31, ↓wX9_goThrough_34, ↓wX9_goThrough_37, ↓wX9_goThrough_38, ↓wX9_goThrough_40, ↓wX9_goThrough_41, ↓wX9_goThrough_42, ↓wX9_goThrough_43, ↓wX9_goThrough_46, ↓wX9_goThrough_49, ↓wX9_goThrough_50, ↓wX9_goThrough_51, ↓wX9_goThrough_52, ↓wX9_goThrough_53, ↓wX9_goThrough_54, ↓wX9_goThrough_55, ↓wX9_goThrough_56, ↓wX9_goThrough_57, ↓wX9_goThrough_60, ↓wX9_goThrough_61, ↓wX9_goThrough_64, ↓wX9_goThrough_66, ↓wX9_goThrough_68, ↓wX9_goThrough_69, ↓wX9_goThrough_70, ↓wX9_goThrough_71, ↓wX9_goThrough_72, ↓wX9_goThrough_73, ↓wX9_goThrough_74, ↓wX9_goThrough_77, ↓wX9_goThrough_80, ↓wX9_goThrough_83, ↓wX9_goThrough_84, ↓wX9_goThrough_85, ↓wX9_goThrough_88, ↓wX9_goThrough_90, ↓wX9_goThrough_92, ↓wX9_goThrough_95, ↓wX9_goThrough_96, ↓wX9_goThrough_97, ↓wX9_goThrough_100, ↓wX9_goThrough_101, ↓wX9_goThrough_102, ↓wX9_goThrough_105, ↓wX9_goThrough_106, ↓wX9_goThrough_107, ↓wX9_goThrough_108, ↓wX9_goThrough_110, ↓wX9_goThrough_113, ↓wX9_goThrough_114, ↓wX9_goThrough_115, ↓wX9_goThrough_118, ↓wX9_goThrough_119, ↓wX9_goThrough_121, ↓wX9_goThrough_124, ↓wX9_goThrough_125, ↓wX9_goThrough_128, ↓wX9_goThrough_129, ↓wX9_goThrough_130, ↓wX9_goThrough_131, ↓wX9_goThrough_132, ↓wX9_goThrough_133, ↓wX9_goThrough_134, ↓wX9_goThrough_135, ↓wX9_goThrough_136, ↓wX9_goThrough_139, ↓wX9_goThrough_142, ↓wX9_goThrough_143, zQi_def, zQa_def, zQv_def, nI00, nI10, nI11, nI01, true_or, or_true, false_or, or_false, eq_self, true_implies, false_implies, not_true_eq_false, not_false_eq_true, zc9, zc1, zc2, zc3, zc1000, nI_m9, nI_add, pk_mul, ix_nI, vpT, zk_zpi, zn_zpi, zr_zpi, zk_zpa, zn_zpa, zr_zpa, zsz_zpi, zsz_zpa, zi_zpa, zpi_pa, zpa_zpa, true_and, and_true, and_self, zk_MST, zn_MST, zr_MST, zsz_MST, zi_MST, zi_MST0, zpa_MST, zpa_MST0, zup_eq, zup_ne, h3, nI_leI, a1, hle, hday, h0, hat, nI_eq, hd])
      repeat' (first | (with_reducible assumption) | (with_reducible decide) | (simp (disch := omega) only [nI00, nI10, nI11, nI01, true_or, or_true, false_or, or_false, eq_self, true_implies, false_implies, not_true_eq_false, not_false_eq_true, zc9, zc1, zc2, zc3, zc1000, nI_m9, nI_add, pk_mul, ix_nI, vpT, zk_zpi, zn_zpi, zr_zpi, zk_zpa, zn_zpa, zr_zpa, zsz_zpi, zsz_zpa, zi_zpa, zpi_pa, zpa_zpa, true_and, and_true, and_self, zk_MST, zn_MST, zr_MST, zsz_MST, zi_MST, zi_MST0, zpa_MST, zpa_MST0, zup_eq, zup_ne, h3, nI_leI, a1, hle, hday, h0, hat, nI_eq, hd]) | (with_reducible apply And.intro) | (with_reducible intro _) | (refine c_in ?_) | (refine c_less ?_) | (refine c_ofRock (by assumption) (by omega) (by omega) ?_) | (refine c_ofKeeper (by assumption) (by omega) (by omega) ?_) | (refine c_setKeeper (by assumption) (by omega) (by omega) ?_) | (refine c_ofTurn (by assumption) (by omega) (by omega) ?_) | (refine c_setTurn (by assumption) (by omega) (by omega) ?_) | (refine c_storeAt ?_) | (refine ih F (t + 1) n mi _ _ (by omega) hG ?_))
theorem c_goThrough {E : zE} {Q : Int32 → zH → Prop} {m j n nr nk td : Nat} {h : zH} {F : Nat → Nat → Int32} (hm : MS h m) (hj : 1 ≤ j ∧ j ≤ 3) (hG : GI (F j) n nr nk td)
    (hq : Q (gT nk n (F j) 0 n (nI 0) (F 0 9)).2.1 (MST h m (zup (zup F j (gT nk n (F j) 0 n (nI 0) (F 0 9)).1) 0 (zup (F 0) 9 (gT nk n (F j) 0 n (nI 0) (F 0 9)).2.2)))) :
    zMi E mX9_goThrough [.inr m, .inr (m + j)] (MST h m F) Q := by
  (refine eX9_goThrough 200 ?_; simp (disch := omega) only [↓wX9_goThrough_0, ↓wX9_goThrough_1, ↓wX9_goThrough_2, ↓wX9_goThrough_3, ↓wX9_goThrough_4, ↓wX9_goThrough_5, ↓wX9_goThrough_6, ↓wX9_goThrough_7, ↓wX9_goThrough_8, ↓wX9_goThrough_11, ↓wX9_goThrough_12, ↓wX9_goThrough_13, ↓wX9_goThrough_14, ↓wX9_goThrough_17, ↓wX9_goThrough_19, ↓wX9_goThrough_20, ↓wX9_goThrough_21, ↓wX9_goThrough_22, ↓wX9_goThrough_25, ↓wX9_goThrough_26, ↓wX9_goThrough_27, ↓wX9_goThrough_28, ↓wX9_goThrough_31, ↓wX9_goThrough_34, ↓wX9_goThrough_37, ↓wX9_goThrough_38, ↓wX9_goThrough_40, ↓wX9_goThrough_41, ↓wX9_goThrough_42, ↓wX9_goThrough_43, ↓wX9_goThrough_46, ↓wX9_goThrough_49, ↓wX9_goThrough_50, ↓wX9_goThrough_51, ↓wX9_goThrough_52, ↓wX9_goThrough_53, ↓wX9_goThrough_54, ↓wX9_goThrough_55, ↓wX9_goThrough_56, ↓wX9_goThrough_57, ↓wX9_goThrough_60, ↓wX9_goThrough_61, ↓wX9_goThrough_64, ↓wX9_goThrough_66, ↓wX9_goThrough_68, ↓wX9_goThrough_69, ↓wX9_goThrough_70, ↓wX9_goThrough_71, ↓wX9_goThrough_72, ↓wX9_goThrough_73, ↓wX9_goThrough_74, ↓wX9_goThrough_77, ↓wX9_goThrough_80, ↓wX9_goThrough_83, ↓wX9_goThrough_84, ↓wX9_goThrough_85, ↓wX9_goThrough_88, ↓wX9_goThrough_90, ↓wX9_goThrough_92, ↓wX9_goThrough_95, ↓wX9_goThrough_96, ↓wX9_goThrough_97, ↓wX9_goThrough_100, ↓wX9_goThrough_101, ↓wX9_goThrough_102, ↓wX9_goThrough_105, ↓wX9_goThrough_106, ↓wX9_goThrough_107, ↓wX9_goThrough_108, ↓wX9_goThrough_110, ↓wX9_goThrough_113, ↓wX9_goThrough_114, ↓wX9_goThrough_115, ↓wX9_goThrough_118, ↓wX9_goThrough_119, ↓wX9_goThrough_121, ↓wX9_goThrough_124, ↓wX9_goThrough_125, ↓wX9_goThrough_128, ↓wX9_goThrough_129, ↓wX9_goThrough_130, ↓wX9_goThrough_131, ↓wX9_goThrough_132, ↓wX9_goThrough_133, ↓wX9_goThrough_134, ↓wX9_goThrough_135, ↓wX9_goThrough_136, ↓wX9_goThrough_139, ↓wX9_goThrough_142, ↓wX9_goThrough_143, zQi_def, zQa_def, zQv_def, nI00, nI10, nI11, nI01, true_or, or_true, false_or, or_false, eq_self, true_implies, false_implies, not_true_eq_false, not_false_eq_true, zc9, zc1, zc2, zc3, zc1000, nI_m9, nI_add, pk_mul, ix_nI, vpT, zk_zpi, zn_zpi, zr_zpi, zk_zpa, zn_zpa, zr_zpa, zsz_zpi, zsz_zpa, zi_zpa, zpi_pa, zpa_zpa, true_and, and_true, and_self])
  exact l_goThrough hm hj n F 0 n _ _ _ (by omega) hG hq
