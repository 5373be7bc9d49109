theorem pD_keep {r : Nat → Int32} {nr nk n td : Nat} (hI : RI r nr nk n td) (htd : td < 199) : ∃ n', n' ≤ n ∧ RI (pD r nr nk n).1 nr nk n' (td + 1) := by
  obtain ⟨i1, i2, i3, i0, hb, hT, hK⟩ := hI
  have hG : GI r n nr nk td := ⟨i3, i2, i0, ⟨htd, hb.2.1, hb.2.2⟩, hT⟩
  obtain ⟨n', hn', hG', hK', h1'⟩ := gT_keep (nk := nk) (nr := nr) (td := td) n (zD nr r 0) 0 n (nI 0) (nI 0) (by omega) (GI_of (fun k hk => zD_at (by omega)) hG) (KP_of (fun k hk => zD_at (by omega)) hK) (by rw [zD_at (by omega)]; exact i1)
  have e : ∀ k, (k ≠ 0 ∧ k ≠ 6 ∧ k < 221) ∨ 337 ≤ k ∨ (∃ u, k = 281 + 7 * u + 1) → (pD r nr nk n).1 k = (gT nk n (zD nr r 0) 0 n (nI 0) (nI 0)).1 k := by
    intro k hk
    unfold pD
    simp only
    rcases hk with hk | hk | ⟨u, hk⟩
    · rw [zup_ne (by omega), zD_at (by omega), rK_at (by omega) (by omega), eD_at (by omega) (by omega), zup_ne (by omega)]
    · rw [zup_ne (by omega), zD_at (by omega), rK_at (by omega) (by omega), eD_at (by omega) (by omega), zup_ne (by omega)]
    · rw [zup_ne (by omega), zD_at (by omega), rK_at (Or.inr (Or.inr ⟨u, hk⟩)) (by omega), eD_at (by omega) (by omega), zup_ne (by omega)]
  refine ⟨n', hn', (e _ (by omega)).trans h1', (e _ (by omega)).trans hG'.2.1, (e _ (by omega)).trans hG'.1, ?_, ⟨by omega, by omega, hb.2.2⟩, fun u hu => TWc (fun f hf => e _ (by omega)) (hG'.2.2.2.2 u hu), KP_of (fun k hk => e _ (Or.inr (Or.inr ⟨k, rfl⟩))) hK'⟩
  unfold pD
  simp only
  rw [zup_eq rfl, zD_at (by omega), rK_at (by omega) (by omega), eD_at (by omega) (by omega), zup_ne (by omega), hG'.2.2.1, nI_add]
/-- days pass -/
def pN (nr nk : Nat) : Nat → (Nat → Int32) → Int32 → (Nat → Int32) × Int32
  | 0, r, mi => (r, mi)
  | d + 1, r, mi => pN nr nk d (pD r nr nk (ixx (r 3))).1 (mi + (pD r nr nk (ixx (r 3))).2.1)
def AFT (F F' : Nat → Nat → Int32) (s : Nat) (r : Nat → Int32) : Prop := F' 1 = r ∧ F' 4 = svF F s ∧ F' 0 5 = nI (svN s) ∧ F' 0 0 = nI 0 ∧ F' 0 7 = F 0 7 ∧ F' 5 = F 5
def SME (F F' : Nat → Nat → Int32) : Prop := F' 1 = F 1 ∧ F' 4 = F 4 ∧ F' 0 5 = F 0 5 ∧ F' 0 0 = nI 0 ∧ F' 0 7 = F 0 7 ∧ F' 5 = F 5
def EFO (F F' : Nat → Nat → Int32) (s : Nat) (o : Option (Nat → Int32)) : Prop := match o with
  | none => SME F F'
  | some r => AFT F F' s r
theorem actF_ne {F : Nat → Nat → Int32} {s j : Nat} (h0 : j ≠ 0) (h4 : j ≠ 4) : actF F s j = F j := by unfold actF; rw [zup_ne h0, zup_ne h4]
def MI (F : Nat → Nat → Int32) (s L : Nat) : Prop := F 0 0 = nI 0 ∧ F 0 5 = nI s ∧ s ≤ 5 ∧ F 0 7 = nI L ∧ L ≤ 140
theorem thr_id {F : Nat → Nat → Int32} (hz : F 0 0 = nI 0) : zup F 0 (zup (F 0) 0 (nI 0)) = F := by rw [← hz, zup_self, zup_self]

