/-! The law's invariant of a row: stores, accounts of keepers, turns. -/
def SVs (r : Nat → Int32) (i s : Nat) : Prop := ∃ a kp : Nat, r (221 + 20 * i + 5 + 5 * s + 0) = nI a ∧ r (221 + 20 * i + 5 + 5 * s + 1) = nI kp ∧ kp ≤ a ∧ a ≤ 999 ∧ r (221 + 20 * i + 5 + 5 * s + 0) = r (221 + 20 * i + 5 + 5 * s + 4) - r (221 + 20 * i + 5 + 5 * s + 2)
def un (x : Int32) : Int32 := if x = 0 then nI 0 else x + nI 1
def KVk (r : Nat → Int32) (k td : Nat) (c : Int32) : Prop := (∃ x z : Nat, z ≤ x ∧ x ≤ td ∧ r (281 + 7 * k + 3) = nI x ∧ r (281 + 7 * k + 4) = nI z) ∧ un (r (281 + 7 * k + 0)) * (r (281 + 7 * k + 3) + r (281 + 7 * k + 4)) - nI 4 * r (281 + 7 * k + 5) = r (281 + 7 * k + 2) ∧ r (281 + 7 * k + 3) + r (281 + 7 * k + 5) + r (281 + 7 * k + 6) = nI td - c
def TVt (r : Nat → Int32) (t : Nat) : Prop := (r (337 + 8 * t + 3) = -9 ∨ r (337 + 8 * t + 3) ≠ r (337 + 8 * t + 4)) ∧ (r (337 + 8 * t + 0) = nI 2 → ∃ m : Nat, m ≤ 300 ∧ r (337 + 8 * t + 6) = nI m)
def SV (r : Nat → Int32) (nr : Nat) : Prop := ∀ i, i < nr → ∀ s, s < 3 → SVs r i s
def KV (r : Nat → Int32) (nk td : Nat) (came : Nat → Int32) : Prop := ∀ k, k < nk → KVk r k td (came k)
def TV (r : Nat → Int32) (n : Nat) : Prop := ∀ t, t < n → TVt r t
def FL (r : Nat → Int32) (nr : Nat) : Prop := ∀ i, i < nr → ∃ f : Nat, f ≤ 1 ∧ r (221 + 20 * i + 4) = nI f
def IV (r : Nat → Int32) (nr nk n td : Nat) (came : Nat → Int32) : Prop := SV r nr ∧ KV r nk td came ∧ TV r n
theorem SVs_of {r r' : Nat → Int32} {i s : Nat} (h : ∀ f, f < 5 → r' (221 + 20 * i + 5 + 5 * s + f) = r (221 + 20 * i + 5 + 5 * s + f)) (hS : SVs r i s) : SVs r' i s := by
  unfold SVs
  rw [h 0 (by omega), h 1 (by omega), h 4 (by omega), h 2 (by omega)]
  exact hS
theorem KVk_of {r r' : Nat → Int32} {k td : Nat} {c : Int32} (h : ∀ f, f < 7 → f ≠ 1 → r' (281 + 7 * k + f) = r (281 + 7 * k + f)) (hS : KVk r k td c) : KVk r' k td c := by
  unfold KVk
  rw [h 0 (by omega) (by omega), h 2 (by omega) (by omega), h 3 (by omega) (by omega), h 4 (by omega) (by omega), h 5 (by omega) (by omega), h 6 (by omega) (by omega)]
  exact hS
theorem TVt_of {r r' : Nat → Int32} {t t' : Nat} (h : ∀ f, f < 8 → f ≠ 2 → r' (337 + 8 * t' + f) = r (337 + 8 * t + f)) (hS : TVt r t) : TVt r' t' := by
  unfold TVt
  rw [h 0 (by omega) (by omega), h 3 (by omega) (by omega), h 4 (by omega) (by omega), h 6 (by omega) (by omega)]
  exact hS
theorem TV_rm {r : Nat → Int32} {n t : Nat} (h : TV r n) : TV (rmT r t n) (n - 1) := by
  intro u hu
  by_cases hut : u < t
  · exact TVt_of (t := u) (fun f hf _ => rmT_at (by omega) (by omega)) (h u (by omega))
  · exact TVt_of (t := u + 1) (fun f hf _ => rmT_sh hf (by omega) hu) (h (u + 1) (by omega))
theorem SV_of {r r' : Nat → Int32} {nr : Nat} (hnr : nr ≤ 3) (h : ∀ k, 221 ≤ k → k < 281 → (∀ i, k ≠ 221 + 20 * i + 3 ∧ k ≠ 221 + 20 * i + 4) → r' k = r k) (hS : SV r nr) : SV r' nr := fun i hi s hs => SVs_of (fun f hf => h _ (by omega) (by omega) (fun i => by omega)) (hS i hi s hs)
theorem lss_min {a b : Nat} (ha : a < 2147483648) (hb : b < 2147483648) : lss (nI a) (nI b) = nI (min a b) := by
  unfold lss
  have e : (nI a < nI b) = (a < b) := by rw [ltle, nI_leI (by omega) (by omega)]; apply propext; omega
  by_cases h : a < b
  · rw [if_pos (by rw [e]; exact h), Nat.min_eq_left (by omega)]
  · rw [if_neg (by rw [e]; exact h), Nat.min_eq_right (by omega)]
/-- a delivery into a store -/
theorem SVs_add {r r' : Nat → Int32} {i s m : Nat} (hm : m ≤ 300) {g : Int32} (hg : g = lss (nI m) (nI 999 - r (221 + 20 * i + 5 + 5 * s + 0))) (h0 : r' (221 + 20 * i + 5 + 5 * s + 0) = r (221 + 20 * i + 5 + 5 * s + 0) + g) (h4 : r' (221 + 20 * i + 5 + 5 * s + 4) = r (221 + 20 * i + 5 + 5 * s + 4) + g) (h1 : r' (221 + 20 * i + 5 + 5 * s + 1) = r (221 + 20 * i + 5 + 5 * s + 1)) (h2 : r' (221 + 20 * i + 5 + 5 * s + 2) = r (221 + 20 * i + 5 + 5 * s + 2)) (hS : SVs r i s) : SVs r' i s := by
  obtain ⟨a, kp, e0, e1, hk, ha, e⟩ := hS
  rw [e0, pk_sub (by omega), lss_min (by omega) (by omega)] at hg
  refine ⟨a + min m (999 - a), kp, by rw [h0, e0, hg, nI_add], by rw [h1]; exact e1, by omega, by omega, ?_⟩
  rw [h0, h4, h2, e]
  grind
theorem nd_n {k s : Nat} (hk : k ≤ 8) : ∃ m : Nat, m ≤ 24 ∧ nd k s = nI m := by
  unfold nd
  split
  · exact ⟨3 * k, by omega, rfl⟩
  · split
    · exact ⟨2 * k, by omega, rfl⟩
    · split
      · exact ⟨5, by omega, rfl⟩
      · exact ⟨0, by omega, rfl⟩
theorem SVs_ea1 {r : Nat → Int32} {i s k : Nat} (hk : k ≤ 8) (hS : SVs r i s) : SVs (ea1 r i s k) i s := by
  obtain ⟨a, kp, e0, e1, hkp, ha, e⟩ := hS
  obtain ⟨m, hm, em⟩ := nd_n (s := s) hk
  have hg : lss (nd k s) (r (221 + 20 * i + 5 + 5 * s + 0) - r (221 + 20 * i + 5 + 5 * s + 1)) = nI (min m (a - kp)) := by rw [em, e0, e1, pk_sub hkp, lss_min (by omega) (by omega)]
  have z0 : ea1 r i s k (221 + 20 * i + 5 + 5 * s + 0) = r (221 + 20 * i + 5 + 5 * s + 0) - nI (min m (a - kp)) := by
    unfold ea1; rw [hg]; simp (disch := omega) only [zup_ne, zup_eq]
  have z1 : ea1 r i s k (221 + 20 * i + 5 + 5 * s + 1) = r (221 + 20 * i + 5 + 5 * s + 1) := by
    unfold ea1; simp (disch := omega) only [zup_ne]
  have z2 : ea1 r i s k (221 + 20 * i + 5 + 5 * s + 2) = r (221 + 20 * i + 5 + 5 * s + 2) + nI (min m (a - kp)) := by
    unfold ea1; rw [hg]; simp (disch := omega) only [zup_ne, zup_eq]
  have z4 : ea1 r i s k (221 + 20 * i + 5 + 5 * s + 4) = r (221 + 20 * i + 5 + 5 * s + 4) := by
    unfold ea1; simp (disch := omega) only [zup_ne]
  refine ⟨a - min m (a - kp), kp, by rw [z0, e0, pk_sub (by omega)], by rw [z1]; exact e1, by omega, by omega, ?_⟩
  rw [z0, z4, z2, e]
  grind
theorem SVs_ea1_o {r : Nat → Int32} {i s k i' s' : Nat} (h : i' ≠ i ∨ s' ≠ s) (hs : s < 3) (hs' : s' < 3) (hS : SVs r i' s') : SVs (ea1 r i s k) i' s' := SVs_of (fun f hf => ea1_at (by omega)) hS
theorem SVs_eaF {r : Nat → Int32} {i k : Nat} (hk : k ≤ 8) (hS : ∀ s, s < 3 → SVs r i s) : ∀ s, s < 3 → SVs (eaF r i k) i s := by
  intro s hs
  unfold eaF
  rcases (show s = 0 ∨ s = 1 ∨ s = 2 by omega) with rfl | rfl | rfl
  · exact SVs_ea1_o (by omega) (by omega) (by omega) (SVs_ea1_o (by omega) (by omega) (by omega) (SVs_ea1 hk (hS 0 (by omega))))
  · exact SVs_ea1_o (by omega) (by omega) (by omega) (SVs_ea1 hk (SVs_ea1_o (by omega) (by omega) (by omega) (hS 1 (by omega))))
  · exact SVs_ea1 hk (SVs_ea1_o (by omega) (by omega) (by omega) (SVs_ea1_o (by omega) (by omega) (by omega) (hS 2 (by omega))))
theorem SV_eD {nr nk : Nat} (hnr : nr ≤ 3) (hnk : nk ≤ 8) (d : Nat) : ∀ (r : Nat → Int32) (i : Nat), i + d = nr → SV r nr → SV (eD nk d r i) nr := by
  induction d with
  | zero => intro r i _ hS; exact hS
  | succ d ih =>
    intro r i hi hS
    unfold eD
    have hle := kO_le r (nI i) nk
    refine ih _ _ (by omega) (fun i' hi' s hs => SVs_of (r := eaF r i (kO r (nI i) nk)) (fun f hf => zup_ne (by omega)) ?_)
    by_cases h : i' = i
    · subst h
      exact SVs_eaF (by omega) (hS i' hi') s hs
    · exact SVs_of (fun f hf => eaF_at (by omega)) (hS i' hi' s hs)
/-- a keeper's day -/
theorem KVk_rk {r : Nat → Int32} {k td : Nat} {c : Int32} (hf : r (281 + 7 * k + 1) = -9 ∨ ∃ f : Nat, f ≤ 1 ∧ r (221 + 20 * ixx (r (281 + 7 * k + 1)) + 4) = nI f) (h : KVk r k td c) : KVk (rkF r k) k (td + 1) c := by
  obtain ⟨⟨x, z, hz, hx, ex, ez⟩, e1, e2⟩ := h
  have etd : nI (td + 1) - c = nI td - c + nI 1 := by rw [← nI_add]; grind
  unfold rkF
  by_cases h9 : r (281 + 7 * k + 1) = -9
  · rw [if_pos h9]
    split
    · refine ⟨⟨x, z, hz, by omega, ?_, ?_⟩, ?_, ?_⟩
      · simp (disch := omega) only [zup_ne]; exact ex
      · simp (disch := omega) only [zup_ne]; exact ez
      · simp (disch := omega) only [zup_ne, zup_eq]
        rw [← e1]
        have : nI 4 * (r (281 + 7 * k + 5) + nI 1) = nI 4 * r (281 + 7 * k + 5) + nI 4 := by
          rw [Int32.mul_add, show nI 4 * nI 1 = nI 4 from rfl]
        grind
      · simp (disch := omega) only [zup_ne, zup_eq]
        rw [etd, ← e2]
        grind
    · refine ⟨⟨x, z, hz, by omega, ?_, ?_⟩, ?_, ?_⟩
      · simp (disch := omega) only [zup_ne]; exact ex
      · simp (disch := omega) only [zup_ne]; exact ez
      · simp (disch := omega) only [zup_ne]; exact e1
      · simp (disch := omega) only [zup_ne, zup_eq]
        rw [etd, ← e2]
        grind
  · rw [if_neg h9]
    obtain ⟨f, hf1, ef⟩ := hf.resolve_left h9
    rw [ef]
    refine ⟨⟨x + 1, z + f, by omega, by omega, ?_, ?_⟩, ?_, ?_⟩
    · simp (disch := omega) only [zup_ne, zup_eq]; rw [ex, nI_add]
    · simp (disch := omega) only [zup_ne, zup_eq]; rw [ez, nI_add]
    · simp (disch := omega) only [zup_ne, zup_eq]
      have hu : (if r (281 + 7 * k + 0) = 0 then nI 0 else r (281 + 7 * k + 0) + nI 1) = un (r (281 + 7 * k + 0)) := rfl
      rw [hu, ← e1]
      generalize un (r (281 + 7 * k + 0)) = u
      grind
    · simp (disch := omega) only [zup_ne, zup_eq]
      rw [etd, ← e2]
      grind
