def zD : Nat → (Nat → Int32) → Nat → (Nat → Int32)
  | 0, r, _ => r
  | d + 1, r, i => zD d (zup r (221 + 20 * i + 4) (nI 0)) (i + 1)
def eD (nk : Nat) : Nat → (Nat → Int32) → Nat → (Nat → Int32)
  | 0, r, _ => r
  | d + 1, r, i => eD nk d (zup (eaF r i (kO r (nI i) nk)) (221 + 20 * i + 3) (eaF r i (kO r (nI i) nk) (221 + 20 * i + 3) + eaF r i (kO r (nI i) nk) (221 + 20 * i + 4))) (i + 1)
def rK : Nat → (Nat → Int32) → Nat → (Nat → Int32)
  | 0, r, _ => r
  | d + 1, r, k => rK d (rkF r k) (k + 1)
/-- a day passes: the row, how many are missed, what is done -/
def pD (r : Nat → Int32) (nr nk n : Nat) : (Nat → Int32) × Int32 × Int32 :=
  let g := gT nk n (zD nr r 0) 0 n (nI 0) (nI 0)
  let e := zD nr (rK nk (eD nk nr (zup g.1 6 (g.1 6 + g.2.1)) 0) 0) 0
  (zup e 0 (e 0 + nI 1), g.2.1, g.2.2)
theorem zD_at {d i k : Nat} {r : Nat → Int32} (h : ∀ u, i ≤ u → u < i + d → k ≠ 221 + 20 * u + 4) : zD d r i k = r k := by
  induction d generalizing r i with
  | zero => rfl
  | succ d ih => unfold zD; rw [ih (fun u h1 h2 => h u (by omega) (by omega)), zup_ne (h i (by omega) (by omega))]
theorem eaF_at {r : Nat → Int32} {i k j : Nat} (h : j < 221 + 20 * i + 5 ∨ 221 + 20 * i + 20 ≤ j) : eaF r i k j = r j := by
  unfold eaF; rw [ea1_at (by omega), ea1_at (by omega), ea1_at (by omega)]
theorem eD_at {nk d i k : Nat} {r : Nat → Int32} (h : k < 221 ∨ 281 ≤ k) (hd : i + d ≤ 3) : eD nk d r i k = r k := by
  induction d generalizing r i with
  | zero => rfl
  | succ d ih => unfold eD; rw [ih (by omega), zup_ne (by omega), eaF_at (by omega)]
theorem rkF_at {r : Nat → Int32} {k j : Nat} (h : j < 281 + 7 * k + 2 ∨ 281 + 7 * k + 7 ≤ j) : rkF r k j = r j := by
  unfold rkF; (repeat' split) <;> simp (disch := omega) only [zup_ne]
theorem rK_at {d i k : Nat} {r : Nat → Int32} (h : k < 281 ∨ 337 ≤ k ∨ ∃ u, k = 281 + 7 * u + 1) (hd : i + d ≤ 8) : rK d r i k = r k := by
  induction d generalizing r i with
  | zero => rfl
  | succ d ih => unfold rK; rw [ih (by omega), rkF_at (by rcases h with h | h | ⟨u, h⟩ <;> omega)]
def KP (r : Nat → Int32) (nr nk : Nat) : Prop := ∀ k, k < nk → r (281 + 7 * k + 1) = -9 ∨ ∃ i, i < nr ∧ r (281 + 7 * k + 1) = nI i
theorem GI_of {r r' : Nat → Int32} {n nr nk td : Nat} (h : ∀ k, k < 4 ∨ 337 ≤ k → r' k = r k) (hG : GI r n nr nk td) : GI r' n nr nk td := by
  obtain ⟨h3, h2, h0, hb, hT⟩ := hG
  exact ⟨(h _ (by omega)).trans h3, (h _ (by omega)).trans h2, (h _ (by omega)).trans h0, hb, fun u hu => TWc (fun f hf => h _ (by omega)) (hT u hu)⟩
theorem dT_pl {r : Nat → Int32} {t nr nk : Nat} (hr : nr ≤ 3) (hk : nk ≤ 8) (hT : TW r t nr nk) (hK : KP r nr nk) : KP (dT r t) nr nk := by
  obtain ⟨h1, -, hc, hg, hkd⟩ := hT
  have i1 := ixx_lt h1 (by omega)
  obtain ⟨ii, hii, e1⟩ := h1
  intro k hkk
  unfold dT
  split
  · rename_i h0
    rcases hkd with ⟨-, -, -, h5⟩ | ⟨h0', -⟩
    · have i2 := ixx_lt h5 (by omega)
      simp (disch := omega) only [zup_ne]
      exact hK k hkk
    · exact absurd h0 h0'
  · have key : ∀ {f : Nat → Int32} {q : Nat} {x : Int32}, (f (281 + 7 * k + 1) = -9 ∨ ∃ i, i < nr ∧ f (281 + 7 * k + 1) = nI i) → (x = -9 ∨ ∃ i, i < nr ∧ x = nI i) → (zup f q x (281 + 7 * k + 1) = -9 ∨ ∃ i, i < nr ∧ zup f q x (281 + 7 * k + 1) = nI i) := by
      intro f q x a b
      by_cases e : 281 + 7 * k + 1 = q
      · rw [zup_eq e]; exact b
      · rw [zup_ne e]; exact a
    (repeat' split) <;> first | exact hK k hkk | exact key (hK k hkk) (Or.inr ⟨ii, hii, e1⟩) | exact key (hK k hkk) (Or.inl rfl) | exact key (key (hK k hkk) (Or.inl rfl)) (Or.inr ⟨ii, hii, e1⟩)
theorem KP_of {r r' : Nat → Int32} {nr nk : Nat} (h : ∀ k, k < nk → r' (281 + 7 * k + 1) = r (281 + 7 * k + 1)) (hK : KP r nr nk) : KP r' nr nk := fun k hk => by rw [h k hk]; exact hK k hk
theorem gT_keep {nk nr td : Nat} (d : Nat) : ∀ (r : Nat → Int32) (t n : Nat) (mi tg : Int32), t + d = n → GI r n nr nk td → KP r nr nk → r 1 = nI nr →
    ∃ n', n' ≤ n ∧ GI (gT nk d r t n mi tg).1 n' nr nk td ∧ KP (gT nk d r t n mi tg).1 nr nk ∧ (gT nk d r t n mi tg).1 1 = nI nr := by
  induction d with
  | zero => intro r t n mi tg _ hG hK h1; exact ⟨n, Nat.le_refl n, hG, hK, h1⟩
  | succ d ih =>
    intro r t n mi tg ht hG hK h1
    have hb := hG.2.2.2.1
    have hT := hG.2.2.2.2 t (by omega)
    have h0 := hG.2.2.1
    have i1 := ixx_lt hT.1 (by omega)
    unfold gT
    split
    · exact ih _ _ _ _ _ (by omega) hG hK h1
    · split
      · rw [h0, nI_add]
        exact ih _ _ _ _ _ (by omega) (GI_up (GI_day hG (by omega)) (by omega)) (KP_of (fun k hk => by rw [zup_ne (by omega), zup_ne (by omega)]) hK) (by rw [zup_ne (by omega), zup_ne (by omega)]; exact h1)
      · split
        · have e := fun k hk => dT_at (k := k) hb.2.2.1 hb.2.2.2 hT hk
          have gA : GI (zup (dT r t) 4 (dT r t 4 + nI 1)) n nr nk td := GI_up (GI_dT hG (by omega)) (by omega)
          have gB : GI (rmT (zup (dT r t) 4 (dT r t 4 + nI 1)) t n) (n - 1) nr nk td := GI_rm gA (by omega)
          have gC : KP (rmT (zup (dT r t) 4 (dT r t 4 + nI 1)) t n) nr nk := KP_of (r := dT r t) (fun k hk => by rw [rmT_at (by omega) (by omega), zup_ne (by omega)]) (dT_pl hb.2.2.1 hb.2.2.2 hT hK)
          obtain ⟨n', q1, q2⟩ := ih _ t (n - 1) mi (tg ||| (nI 1 <<< (r (337 + 8 * t + 7) &&& 31))) (by omega) gB gC (by rw [rmT_at (by omega) (by omega), zup_ne (by omega), e _ (by omega)]; exact h1)
          exact ⟨n', by omega, q2⟩
        · have gA : GI (zup r 5 (r 5 + nI 1)) n nr nk td := GI_up hG (by omega)
          have gB : GI (rmT (zup r 5 (r 5 + nI 1)) t n) (n - 1) nr nk td := GI_rm gA (by omega)
          have gC : KP (rmT (zup r 5 (r 5 + nI 1)) t n) nr nk := KP_of (r := r) (fun k hk => by rw [rmT_at (by omega) (by omega), zup_ne (by omega)]) hK
          obtain ⟨n', q1, q2⟩ := ih _ t (n - 1) mi tg (by omega) gB gC (by rw [rmT_at (by omega) (by omega), zup_ne (by omega)]; exact h1)
          exact ⟨n', by omega, q2⟩
