/-! Rows that differ in tags alone go the same way. -/
def nt (k : Nat) : Prop := k < 433 ∧ ∀ u, k ≠ 337 + 8 * u + 7
def NT (a b : Nat → Int32) : Prop := ∀ k, nt k → a k = b k
theorem nt_lo {k : Nat} (h : k < 337) : nt k := ⟨by omega, fun u => by omega⟩
theorem nt_t {t f : Nat} (ht : t < 12) (hf : f < 7) : nt (337 + 8 * t + f) := ⟨by omega, fun u => by omega⟩
theorem NT_up {a b : Nat → Int32} {k : Nat} {x y : Int32} (h : NT a b) (hx : x = y) : NT (zup a k x) (zup b k y) := by
  intro j hj
  by_cases e : j = k
  · rw [zup_eq e, zup_eq e]; exact hx
  · rw [zup_ne e, zup_ne e]; exact h j hj
theorem NT_rm {a b : Nat → Int32} {t n : Nat} (h : NT a b) (hn : n ≤ 12) : NT (rmT a t n) (rmT b t n) := by
  intro j hj
  unfold rmT
  split
  · rfl
  · split
    · exact h _ ⟨by omega, fun u e => by
        rcases u with _ | u
        · omega
        · exact hj.2 u (by omega)⟩
    · exact h j hj
theorem NT_dT {a b : Nat → Int32} {t nr nk : Nat} (h : NT a b) (hr : nr ≤ 3) (hk : nk ≤ 8) (ht : t < 12) (hT : TW a t nr nk) : NT (dT a t) (dT b t) := by
  obtain ⟨h1, -, hc, hg, hkd⟩ := hT
  have i1 := ixx_lt h1 (by omega)
  have e0 := h (337 + 8 * t + 0) (nt_t ht (by omega))
  have e1 := h (337 + 8 * t + 1) (nt_t ht (by omega))
  have e3 := h (337 + 8 * t + 3) (nt_t ht (by omega))
  have e4 := h (337 + 8 * t + 4) (nt_t ht (by omega))
  have e5 := h (337 + 8 * t + 5) (nt_t ht (by omega))
  have e6 := h (337 + 8 * t + 6) (nt_t ht (by omega))
  unfold dT
  rw [← e0, ← e1, ← e3, ← e4, ← e5, ← e6]
  split
  · rename_i h0
    rcases hkd with ⟨-, -, -, h5⟩ | ⟨h0', -⟩
    · have i2 := ixx_lt h5 (by omega)
      have q0 := h (221 + 20 * ixx (a (337 + 8 * t + 1)) + 5 + 5 * ixx (a (337 + 8 * t + 5)) + 0) (nt_lo (by omega))
      have q4 := h (221 + 20 * ixx (a (337 + 8 * t + 1)) + 5 + 5 * ixx (a (337 + 8 * t + 5)) + 4) (nt_lo (by omega))
      rw [← q0, ← q4]
      exact NT_up (NT_up h rfl) rfl
    · exact absurd h0 h0'
  · split
    · split
      · exact h
      · exact NT_up h rfl
    · split
      · exact NT_up h rfl
      · exact NT_up (NT_up h rfl) rfl
theorem NT_cL {a b : Nat → Int32} {i d : Nat} (h : NT a b) (hi : i < 3) (hd : d < 200) : cL a i d = cL b i d := by
  unfold cL
  rw [h (221 + 20 * i + 0) (nt_lo (by omega)), h (221 + 20 * i + 1) (nt_lo (by omega)), h (7 + d % 14) (nt_lo (by omega)), h (21 + d) (nt_lo (by omega))]
theorem NT_kO {a b : Nat → Int32} {x : Int32} {n : Nat} (h : NT a b) (hn : n ≤ 8) : kO a x n = kO b x n := kO_congr fun k hk => h _ (nt_lo (by omega))
theorem NT_cbd {a b : Nat → Int32} {t nr nk : Nat} (h : NT a b) (hr : nr ≤ 3) (hk : nk ≤ 8) (ht : t < 12) (hT : TW a t nr nk) : cbd a t nk = cbd b t nk := by
  obtain ⟨h1, -, hc, hg, hkd⟩ := hT
  have i1 := ixx_lt h1 (by omega)
  have e1 := h (337 + 8 * t + 1) (nt_t ht (by omega))
  have e3 := h (337 + 8 * t + 3) (nt_t ht (by omega))
  have e4 := h (337 + 8 * t + 4) (nt_t ht (by omega))
  have ep := h (221 + 20 * ixx (a (337 + 8 * t + 1)) + 2) (nt_lo (by omega))
  unfold cbd
  rw [← e1, ← e3, ← e4, ← ep, NT_kO h hk]
  refine congr (congrArg And ?_) ?_
  · rcases hc with hc | hc
    · exact propext ⟨fun _ => Or.inl hc, fun _ => Or.inl hc⟩
    · have i3 := ixx_lt hc (by omega)
      rw [h (281 + 7 * ixx (a (337 + 8 * t + 3)) + 1) (nt_lo (by omega))]
  · rcases hg with hg | hg
    · exact propext ⟨fun _ => Or.inl hg, fun _ => Or.inl hg⟩
    · have i4 := ixx_lt hg (by omega)
      rw [h (281 + 7 * ixx (a (337 + 8 * t + 4)) + 1) (nt_lo (by omega))]
theorem NT_gT {nk nr td : Nat} (d : Nat) : ∀ (a b : Nat → Int32) (t n : Nat) (mi tg tg' : Int32), t + d = n → GI a n nr nk td → NT a b → NT (gT nk d a t n mi tg).1 (gT nk d b t n mi tg').1 ∧ (gT nk d a t n mi tg).2.1 = (gT nk d b t n mi tg').2.1 := by
  induction d with
  | zero => intro a b t n mi tg tg' _ hG h; exact ⟨h, rfl⟩
  | succ d ih =>
    intro a b t n mi tg tg' ht hG h
    have hb := hG.2.2.2.1
    have hT := hG.2.2.2.2 t (by omega)
    have h0 := hG.2.2.1
    have i1 := ixx_lt hT.1 (by omega)
    have e0 := h 0 (nt_lo (by omega))
    have e4 := h 4 (nt_lo (by omega))
    have e5 := h 5 (nt_lo (by omega))
    have e1 := h (337 + 8 * t + 1) (nt_t (by omega) (by omega))
    have e2 := h (337 + 8 * t + 2) (nt_t (by omega) (by omega))
    have eL : cL a (ixx (a (337 + 8 * t + 1))) (ixx (a 0)) = cL b (ixx (b (337 + 8 * t + 1))) (ixx (b 0)) := by
      rw [← e1, ← e0]
      exact NT_cL h (by omega) (by rw [h0, ixx_nI (by omega)]; omega)
    have eC := NT_cbd h hb.2.2.1 hb.2.2.2 (show t < 12 by omega) hT
    have eD := NT_dT h hb.2.2.1 hb.2.2.2 (show t < 12 by omega) hT
    unfold gT
    by_cases q1 : ¬ a (337 + 8 * t + 2) = a 0
    · have q1' : ¬ b (337 + 8 * t + 2) = b 0 := by rw [← e2, ← e0]; exact q1
      rw [if_pos q1, if_pos q1']
      exact ih _ _ _ _ _ _ _ (by omega) hG h
    · have q1' : ¬ ¬ b (337 + 8 * t + 2) = b 0 := by rw [← e2, ← e0]; exact q1
      rw [if_neg q1, if_neg q1']
      by_cases q2 : cL a (ixx (a (337 + 8 * t + 1))) (ixx (a 0))
      · have q2' := q2
        rw [eL] at q2'
        rw [if_neg (show ¬ ¬ cL a (ixx (a (337 + 8 * t + 1))) (ixx (a 0)) from fun q => q q2), if_neg (show ¬ ¬ cL b (ixx (b (337 + 8 * t + 1))) (ixx (b 0)) from fun q => q q2')]
        by_cases q3 : cbd a t nk
        · have q3' := q3
          rw [eC] at q3'
          rw [if_pos q3, if_pos q3']
          exact ih _ _ t (n - 1) mi _ _ (by omega) (GI_rm (GI_up (GI_dT hG (by omega)) (by omega)) (by omega)) (NT_rm (NT_up eD (by rw [eD 4 (nt_lo (by omega))])) (by omega))
        · have q3' := q3
          rw [eC] at q3'
          rw [if_neg q3, if_neg q3']
          exact ih _ _ t (n - 1) mi _ _ (by omega) (GI_rm (GI_up hG (by omega)) (by omega)) (NT_rm (NT_up h (by rw [e5])) (by omega))
      · have q2' := q2
        rw [eL] at q2'
        rw [if_pos q2, if_pos q2', ← e1, ← e0]
        refine ih _ _ (t + 1) n _ _ _ (by omega) ?_ (NT_up (NT_up h rfl) rfl)
        rw [h0, nI_add]
        exact GI_up (GI_day hG (by omega)) (by omega)
theorem NT_zD (d : Nat) : ∀ (a b : Nat → Int32) (i : Nat), NT a b → NT (zD d a i) (zD d b i) := by
  induction d with
  | zero => intro a b i h; exact h
  | succ d ih => intro a b i h; unfold zD; exact ih _ _ _ (NT_up h rfl)
theorem NT_ea1 {a b : Nat → Int32} {i s k : Nat} (h : NT a b) (hi : i < 3) (hs : s < 3) : NT (ea1 a i s k) (ea1 b i s k) := by
  have e0 := h (221 + 20 * i + 5 + 5 * s + 0) (nt_lo (by omega))
  have e1 := h (221 + 20 * i + 5 + 5 * s + 1) (nt_lo (by omega))
  have e2 := h (221 + 20 * i + 5 + 5 * s + 2) (nt_lo (by omega))
  have e3 := h (221 + 20 * i + 5 + 5 * s + 3) (nt_lo (by omega))
  unfold ea1
  rw [← e0, ← e1, ← e2, ← e3]
  exact NT_up (NT_up (NT_up h rfl) rfl) rfl
theorem NT_eaF {a b : Nat → Int32} {i k : Nat} (h : NT a b) (hi : i < 3) : NT (eaF a i k) (eaF b i k) := NT_ea1 (NT_ea1 (NT_ea1 h hi (by omega)) hi (by omega)) hi (by omega)
theorem NT_eD {nk : Nat} (hnk : nk ≤ 8) (d : Nat) : ∀ (a b : Nat → Int32) (i : Nat), i + d ≤ 3 → NT a b → NT (eD nk d a i) (eD nk d b i) := by
  induction d with
  | zero => intro a b i _ h; exact h
  | succ d ih =>
    intro a b i hi h
    unfold eD
    rw [← NT_kO h hnk]
    have h2 := NT_eaF (k := kO a (nI i) nk) h (show i < 3 by omega)
    exact ih _ _ _ (by omega) (NT_up h2 (by rw [h2 (221 + 20 * i + 3) (nt_lo (by omega)), h2 (221 + 20 * i + 4) (nt_lo (by omega))]))
theorem NT_rkF {a b : Nat → Int32} {k : Nat} (h : NT a b) (hk : k < 8) (hK : a (281 + 7 * k + 1) = -9 ∨ ixx (a (281 + 7 * k + 1)) < 3) : NT (rkF a k) (rkF b k) := by
  have e0 := h (281 + 7 * k + 0) (nt_lo (by omega))
  have e1 := h (281 + 7 * k + 1) (nt_lo (by omega))
  have e2 := h (281 + 7 * k + 2) (nt_lo (by omega))
  have e3 := h (281 + 7 * k + 3) (nt_lo (by omega))
  have e4 := h (281 + 7 * k + 4) (nt_lo (by omega))
  have e5 := h (281 + 7 * k + 5) (nt_lo (by omega))
  have e6 := h (281 + 7 * k + 6) (nt_lo (by omega))
  unfold rkF
  rw [← e0, ← e1, ← e2, ← e3, ← e4, ← e5, ← e6]
  split
  · split
    · exact NT_up (NT_up h rfl) rfl
    · exact NT_up h rfl
  · rename_i h9
    rw [← h (221 + 20 * ixx (a (281 + 7 * k + 1)) + 4) (nt_lo (by have := hK.resolve_left h9; omega))]
    exact NT_up (NT_up (NT_up h rfl) rfl) rfl
theorem NT_rK (d : Nat) : ∀ (a b : Nat → Int32) (k : Nat), k + d ≤ 8 → (∀ j, j < k + d → a (281 + 7 * j + 1) = -9 ∨ ixx (a (281 + 7 * j + 1)) < 3) → NT a b → NT (rK d a k) (rK d b k) := by
  induction d with
  | zero => intro a b k _ _ h; exact h
  | succ d ih =>
    intro a b k hk hK h
    unfold rK
    exact ih _ _ _ (by omega) (fun j hj => by rw [rkF_at (by omega)]; exact hK j (by omega)) (NT_rkF h (by omega) (hK k (by omega)))
theorem NT_pD {a b : Nat → Int32} {nr nk n td : Nat} (hI : RI a nr nk n td) (htd : td < 199) (h : NT a b) : NT (pD a nr nk n).1 (pD b nr nk n).1 := by
  obtain ⟨i1, i2, i3, i0, hb, hT, hK⟩ := hI
  have hG : GI (zD nr a 0) n nr nk td := GI_of (fun k hk => zD_at (by omega)) ⟨i3, i2, i0, ⟨htd, hb.2.1, hb.2.2⟩, hT⟩
  have hKz : KP (zD nr a 0) nr nk := KP_of (fun k hk => zD_at (by omega)) hK
  have hg := NT_gT (nk := nk) n (zD nr a 0) (zD nr b 0) 0 n (nI 0) (nI 0) (nI 0) (by omega) hG (NT_zD nr a b 0 h)
  obtain ⟨n', -, -, gK, -⟩ := gT_keep (nk := nk) (nr := nr) (td := td) n (zD nr a 0) 0 n (nI 0) (nI 0) (by omega) hG hKz (by rw [zD_at (by omega)]; exact i1)
  unfold pD
  simp only
  have h1 := NT_up (k := 6) hg.1 (show (gT nk n (zD nr a 0) 0 n (nI 0) (nI 0)).1 6 + (gT nk n (zD nr a 0) 0 n (nI 0) (nI 0)).2.1 = (gT nk n (zD nr b 0) 0 n (nI 0) (nI 0)).1 6 + (gT nk n (zD nr b 0) 0 n (nI 0) (nI 0)).2.1 by rw [hg.2, hg.1 6 (nt_lo (by omega))])
  have h2 := NT_eD hb.2.2.2 nr _ _ 0 (by omega) h1
  have h3 := NT_rK nk _ _ 0 (by omega) (fun j hj => by
    rw [eD_at (by omega) (by omega), zup_ne (by omega)]
    rcases gK j (by omega) with q | ⟨i, hi, q⟩
    · exact Or.inl q
    · exact Or.inr (by rw [q, ixx_nI (by omega)]; omega)) h2
  have h4 := NT_zD nr _ _ 0 h3
  exact NT_up h4 (by rw [h4 0 (nt_lo (by omega))])
theorem NT_pN {nr nk : Nat} (d : Nat) : ∀ (a b : Nat → Int32) (n td : Nat) (mi mi' : Int32), RI a nr nk n td → td + d ≤ 199 → NT a b → NT (pN nr nk d a mi).1 (pN nr nk d b mi').1 := by
  induction d with
  | zero => intro a b n td mi mi' _ _ h; exact h
  | succ d ih =>
    intro a b n td mi mi' hI htd h
    obtain ⟨n1, a1, a2⟩ := pD_keep hI (by omega)
    have hn := hI.2.2.2.2.1
    have e3 : ixx (a 3) = n := by rw [hI.2.2.1, ixx_nI (by omega)]
    have e3' : ixx (b 3) = n := by rw [← h 3 (nt_lo (by omega))]; exact e3
    unfold pN
    rw [e3, e3']
    exact ih _ _ n1 (td + 1) _ _ a2 (by omega) (NT_pD hI (by omega) h)
theorem NT_wF {f w : Nat → Int32} {n : Nat} : NT (wF f w n) f := fun k hk => wF_at hk.1 (fun u _ => hk.2 u)
theorem qLat_i {f w : Nat → Int32} {nr nk n td k D x : Nat} (hI : RI f nr nk n td) (hk : k < nk) (hx : x < 7) (hD : D ≤ 60) (htd : td + D ≤ 199) : qLat f w nr nk n td (nI k) (nI D) (nI x) = (pN nr nk D f (nI 0)).1 (281 + 7 * k + x) := by
  have hn := hI.2.2.2.2.1
  unfold qLat
  rw [if_pos ⟨inT hk (by omega), inT (show D < 61 by omega) (by omega), inT hx (by omega)⟩, ixx_nI (by omega), ixx_nI (by omega), ixx_nI (by omega), if_pos (by rw [nI_leI (by omega) (by omega)]; exact htd)]
  exact NT_pN D (wF f w n) f n td (nI 0) (nI 0) (RI_wF hI) htd NT_wF _ (nt_lo (by omega))
