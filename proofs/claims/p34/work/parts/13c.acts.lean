/-! The law's invariant behind each action. -/
def bd (nr nk n td : Nat) : Prop := nr ≤ 3 ∧ nk ≤ 8 ∧ n ≤ 12 ∧ td < 200
theorem RI_eq {r : Nat → Int32} {a b c d a' b' c' d' : Nat} (h : RI r a b c d) (hb : bd a' b' c' d') (e1 : r 1 = nI a') (e2 : r 2 = nI b') (e3 : r 3 = nI c') (e0 : r 0 = nI d') : a = a' ∧ b = b' ∧ c = c' ∧ d = d' := by
  obtain ⟨i1, i2, i3, i0, hh, -⟩ := h
  obtain ⟨b1, b2, b3, b4⟩ := hb
  exact ⟨nIinj (by omega) (by omega) (i1.symm.trans e1), nIinj (by omega) (by omega) (i2.symm.trans e2), nIinj (by omega) (by omega) (i3.symm.trans e3), nIinj (by omega) (by omega) (i0.symm.trans e0)⟩
/-- behind an action: what it answers, and the row that it leaves -/
def NX1 (r r' : Nat → Int32) (nr nk n td : Nat) (came came' : Nat → Int32) (δ : Int32) : Prop := ∃ nr' nk' n' td', bd nr' nk' n' td' ∧ r' 1 = nI nr' ∧ r' 2 = nI nk' ∧ r' 3 = nI n' ∧ r' 0 = nI td' ∧ IV r' nr' nk' n' td' came' ∧ AC r r' δ ∧ nr ≤ nr' ∧ nk ≤ nk' ∧ td ≤ td' ∧ td' ≤ td + 4
def NX0 (r : Nat → Int32) (o : Int32 × Option (Nat → Int32)) (nr nk n td : Nat) (came came' : Nat → Int32) (δ : Int32) : Prop := (o.2 = none → o.1 < 0) ∧ ∀ r', o.2 = some r' → 0 ≤ o.1 ∧ NX1 r r' nr nk n td came came' δ
theorem NX0_n {r : Nat → Int32} {a : Int32} {nr nk n td : Nat} {came came' : Nat → Int32} {δ : Int32} (h : a < 0) : NX0 r (a, none) nr nk n td came came' δ := ⟨fun _ => h, fun _ e => by cases e⟩
theorem NX0_s {r r' : Nat → Int32} {a : Int32} {nr nk n td : Nat} {came came' : Nat → Int32} {δ : Int32} (h : 0 ≤ a) (h2 : NX1 r r' nr nk n td came came' δ) : NX0 r (a, some r') nr nk n td came came' δ := ⟨fun e => (by cases e), fun _ e => (by cases e; exact ⟨h, h2⟩)⟩
theorem nn_nI {j : Nat} (h : j < 2147483648) : 0 ≤ nI j := by rw [i32le, nIn h, i32_0]; omega
theorem i32neg {a : Int32} (h : ¬ 0 ≤ a) : a < 0 := Int32.not_le.mp h
section NX
variable {r : Nat → Int32} {nr nk n td : Nat} {came : Nat → Int32}
theorem RI_bd (hI : RI r nr nk n td) : bd nr nk n td := ⟨hI.2.2.2.2.1.2.2.1, hI.2.2.2.2.1.2.2.2, hI.2.2.2.2.1.2.1, hI.2.2.2.2.1.1⟩
/-- a row with other sea cells alone -/
theorem NX1_sea (hI : RI r nr nk n td) (hV : IV r nr nk n td came) {k : Nat} {x : Int32} (hk : 7 ≤ k ∧ k < 221) : NX1 r (zup r k x) nr nk n td came came 0 := by
  have hb := RI_bd hI
  obtain ⟨i1, i2, i3, i0, -⟩ := hI
  obtain ⟨v1, v2, v3⟩ := hV
  refine ⟨nr, nk, n, td, hb, by rw [zup_ne (by omega)]; exact i1, by rw [zup_ne (by omega)]; exact i2, by rw [zup_ne (by omega)]; exact i3, by rw [zup_ne (by omega)]; exact i0, ⟨SV_of hb.1 (fun j j1 j2 _ => zup_ne (by omega)) v1, fun j hj => KVk_of (fun f hf _ => zup_ne (by omega)) (v2 j hj), fun j hj => TVt_of (fun f hf _ => zup_ne (by omega)) (v3 j hj)⟩, AC_of (fun j j1 j2 => zup_ne (by omega)), Nat.le_refl _, Nat.le_refl _, Nat.le_refl _, by omega⟩
theorem nxTide (hI : RI r nr nk n td) (hX : XI r nr nk n td) (hV : IV r nr nk n td came) {x y : Int32} : NX0 r (oTide r x y) nr nk n td came came 0 := by
  unfold oTide
  split
  · rename_i q
    have h1 := ixx_in q.1 (by omega)
    exact NX0_s (hX.1 _ h1) (NX1_sea hI hV (by omega))
  · exact NX0_n (by decide)
theorem nxSwell (hI : RI r nr nk n td) (hX : XI r nr nk n td) (hV : IV r nr nk n td came) {d x : Int32} : NX0 r (oSwell r td d x) nr nk n td came came 0 := by
  unfold oSwell
  split
  · rename_i q
    obtain ⟨j, hj, rfl⟩ := swC_d q
    rw [ixx_nI (by omega)]
    exact NX0_s (hX.2.1 _ hj) (NX1_sea hI hV (by omega))
  · rename_i q
    exact NX0_n (i32neg q)
theorem nxRock (hI : RI r nr nk n td) (hV : IV r nr nk n td came) {a b c : Int32} : NX0 r (oRock r nr a b c) nr nk n td came came 0 := by
  have hb := RI_bd hI
  unfold oRock
  split
  · rename_i q
    have h3 := rkC_n q
    obtain ⟨b1, b2, b3, b4⟩ := hb
    obtain ⟨i1, i2, i3, i0, -⟩ := hI
    obtain ⟨v1, v2, v3⟩ := hV
    have e : ∀ k, k < 221 ∨ 221 + 20 * nr + 20 ≤ k ∨ (221 ≤ k ∧ k < 221 + 20 * nr) → k ≠ 1 → rkN r nr a b c k = r k := fun k hk h1 => by
      unfold rkN; rw [zup_ne h1, zup_ne (by omega), zup_ne (by omega), zup_ne (by omega), clr_at (by omega)]
    have z : ∀ k, 221 + 20 * nr + 3 ≤ k → k < 221 + 20 * nr + 20 → rkN r nr a b c k = nI 0 := fun k h1 h2 => by
      unfold rkN; rw [zup_ne (by omega), zup_ne (by omega), zup_ne (by omega), zup_ne (by omega), clr_in (by omega)]
    refine NX0_s (nn_nI (by omega)) ⟨nr + 1, nk, n, td, ⟨by omega, b2, b3, b4⟩, ?_, by rw [e _ (by omega) (by omega)]; exact i2, by rw [e _ (by omega) (by omega)]; exact i3, by rw [e _ (by omega) (by omega)]; exact i0, ⟨fun i hi s hs => ?_, fun j hj => KVk_of (fun f hf _ => e _ (by omega) (by omega)) (v2 j hj), fun j hj => TVt_of (fun f hf _ => e _ (by omega) (by omega)) (v3 j hj)⟩, AC_of (fun j j1 j2 => e _ (by omega) (by omega)), by omega, Nat.le_refl _, Nat.le_refl _, by omega⟩
    · unfold rkN; exact zup_eq rfl
    · by_cases h : i = nr
      · subst h
        refine ⟨0, 0, z _ (by omega) (by omega), z _ (by omega) (by omega), Nat.le_refl _, by omega, ?_⟩
        rw [z _ (by omega) (by omega), z _ (by omega) (by omega), z _ (by omega) (by omega)]
        rfl
      · exact SVs_of (fun f hf => e _ (by omega) (by omega)) (v1 i (by omega) s hs)
  · rename_i q
    exact NX0_n (i32neg q)
theorem nxKeep (hI : RI r nr nk n td) (hX : XI r nr nk n td) (hV : IV r nr nk n td came) {i s x : Int32} : NX0 r (oKeep r nr i s x) nr nk n td came came 0 := by
  have hb := RI_bd hI
  unfold oKeep
  split
  · rename_i q
    obtain ⟨b1, b2, b3, b4⟩ := id hb
    have h1 := ixx_in q.1.1 (by omega)
    have h2 := ixx_in q.1.2 (by omega)
    obtain ⟨xx, hxx, rfl⟩ := (inN_iff (by omega)).mp q.2
    generalize ixx i = i at *
    generalize ixx s = s at *
    split
    · rename_i hle
      obtain ⟨i1, i2, i3, i0, -⟩ := hI
      obtain ⟨v1, v2, v3⟩ := hV
      refine NX0_s (hX.2.2.2.1 i h1 s h2) ⟨nr, nk, n, td, hb, by rw [zup_ne (by omega)]; exact i1, by rw [zup_ne (by omega)]; exact i2, by rw [zup_ne (by omega)]; exact i3, by rw [zup_ne (by omega)]; exact i0, ⟨fun i' hi' s' hs' => ?_, fun j hj => KVk_of (fun f hf _ => zup_ne (by omega)) (v2 j hj), fun j hj => TVt_of (fun f hf _ => zup_ne (by omega)) (v3 j hj)⟩, AC_of (fun j j1 j2 => zup_ne (by omega)), Nat.le_refl _, Nat.le_refl _, Nat.le_refl _, by omega⟩
      by_cases h : i' = i ∧ s' = s
      · obtain ⟨rfl, rfl⟩ := h
        obtain ⟨a, kp, e0, e1, hk, ha, e⟩ := v1 i' hi' s' hs'
        rw [e0, nI_leI (by omega) (by omega)] at hle
        refine ⟨a, xx, by rw [zup_ne (by omega)]; exact e0, zup_eq rfl, hle, ha, ?_⟩
        simp (disch := omega) only [zup_ne]
        exact e
      · exact SVs_of (fun f hf => zup_ne (by omega)) (v1 i' hi' s' hs')
    · exact NX0_n (by decide)
  · exact NX0_n (by decide)
theorem nxCome (hI : RI r nr nk n td) (hV : IV r nr nk n td came) {a : Int32} : NX0 r (oCome r nk a) nr nk n td came (zup came nk (nI td)) 0 := by
  have hb := RI_bd hI
  unfold oCome
  split
  · rename_i q
    have h8 := cmC_n q
    obtain ⟨b1, b2, b3, b4⟩ := hb
    obtain ⟨i1, i2, i3, i0, -⟩ := hI
    obtain ⟨v1, v2, v3⟩ := hV
    have e : ∀ k, k < 281 + 7 * nk ∨ 281 + 7 * nk + 7 ≤ k → k ≠ 2 → kpN r nk a k = r k := fun k hk h2 => by
      unfold kpN; rw [zup_ne (by omega), zup_ne (by omega), clr_at (by omega), zup_ne h2]
    have z : ∀ f, 2 ≤ f → f < 7 → kpN r nk a (281 + 7 * nk + f) = nI 0 := fun f h1 h2 => by
      unfold kpN; rw [zup_ne (by omega), zup_ne (by omega), clr_in (by omega)]
    refine NX0_s (nn_nI (by omega)) ⟨nr, nk + 1, n, td, ⟨b1, by omega, b3, b4⟩, by rw [e _ (by omega) (by omega)]; exact i1, ?_, by rw [e _ (by omega) (by omega)]; exact i3, by rw [e _ (by omega) (by omega)]; exact i0, ⟨SV_of b1 (fun j j1 j2 _ => e _ (by omega) (by omega)) v1, fun j hj => ?_, fun j hj => TVt_of (fun f hf _ => e _ (by omega) (by omega)) (v3 j hj)⟩, AC_of (fun j j1 j2 => e _ (by omega) (by omega)), Nat.le_refl _, by omega, Nat.le_refl _, by omega⟩
    · unfold kpN; rw [zup_ne (by omega), zup_ne (by omega), clr_at (by omega), zup_eq rfl]
    · by_cases h : j = nk
      · subst h
        rw [zup_eq rfl]
        refine ⟨⟨0, 0, Nat.le_refl _, by omega, z 3 (by omega) (by omega), z 4 (by omega) (by omega)⟩, ?_, ?_⟩
        · rw [z 3 (by omega) (by omega), z 4 (by omega) (by omega), z 5 (by omega) (by omega), z 2 (by omega) (by omega), show nI 0 + nI 0 = 0 from rfl, Int32.mul_zero]
          rfl
        · rw [z 3 (by omega) (by omega), z 5 (by omega) (by omega), z 6 (by omega) (by omega), Int32.sub_self]
          rfl
      · rw [zup_ne h]
        exact KVk_of (fun f hf _ => e _ (by omega) (by omega)) (v2 j (by omega))
  · rename_i q
    exact NX0_n (i32neg q)
theorem NX1_plan (hI : RI r nr nk n td) (hV : IV r nr nk n td came) (h12 : n ≠ 12) {kind a d c g s x : Int32} (hc : c = -9 ∨ c ≠ g) (hx : kind = nI 2 → ∃ m : Nat, m ≤ 300 ∧ x = nI m) : NX1 r (plN r n kind a d c g s x) nr nk n td came came 1 := by
  have hb := RI_bd hI
  obtain ⟨b1, b2, b3, b4⟩ := hb
  obtain ⟨i1, i2, i3, i0, -⟩ := hI
  obtain ⟨v1, v2, v3⟩ := hV
  have e : ∀ k, k < 337 + 8 * n ∨ 337 + 8 * n + 8 ≤ k → k ≠ 3 → plN r n kind a d c g s x k = r k := fun k hk h3 => by
    unfold plN; simp (disch := omega) only [zup_ne]
  have e3 : plN r n kind a d c g s x 3 = nI (n + 1) := by
    unfold plN; simp (disch := omega) only [zup_ne, zup_eq]
  refine ⟨nr, nk, n + 1, td, ⟨b1, b2, by omega, b4⟩, by rw [e _ (by omega) (by omega)]; exact i1, by rw [e _ (by omega) (by omega)]; exact i2, e3, by rw [e _ (by omega) (by omega)]; exact i0, ⟨SV_of b1 (fun j j1 j2 _ => e _ (by omega) (by omega)) v1, fun j hj => KVk_of (fun f hf _ => e _ (by omega) (by omega)) (v2 j hj), fun j hj => ?_⟩, ?_, Nat.le_refl _, Nat.le_refl _, Nat.le_refl _, by omega⟩
  · by_cases h : j = n
    · subst h
      have f0 : plN r j kind a d c g s x (337 + 8 * j + 0) = kind := by unfold plN; simp (disch := omega) only [zup_ne, zup_eq]
      have f3 : plN r j kind a d c g s x (337 + 8 * j + 3) = c := by unfold plN; simp (disch := omega) only [zup_ne, zup_eq]
      have f4 : plN r j kind a d c g s x (337 + 8 * j + 4) = g := by unfold plN; simp (disch := omega) only [zup_ne, zup_eq]
      have f6 : plN r j kind a d c g s x (337 + 8 * j + 6) = x := by unfold plN; simp (disch := omega) only [zup_ne, zup_eq]
      unfold TVt
      rw [f0, f3, f4, f6]
      exact ⟨hc, hx⟩
    · exact TVt_of (fun f hf _ => e _ (by omega) (by omega)) (v3 j (by omega))
  · unfold AC
    rw [e3, e 4 (by omega) (by omega), e 5 (by omega) (by omega), i3, ← nI_1]
    grind
theorem nxRel (hI : RI r nr nk n td) (hV : IV r nr nk n td came) {a d c g : Int32} : NX0 r (oRel r nr nk n td a d c g) nr nk n td came came 1 := by
  have hb := RI_bd hI
  unfold oRel
  split
  · rename_i q
    obtain ⟨h12, hp, -⟩ := tnC_n q
    exact NX0_s (nn_nI (by have := hb.2.2.1; omega)) (NX1_plan hI hV h12 (Or.inr hp.2.2.2) (fun q => absurd q (by decide)))
  · rename_i q
    exact NX0_n (i32neg q)
theorem nxChg (hI : RI r nr nk n td) (hV : IV r nr nk n td came) {a d k o : Int32} : NX0 r (oChg r nr nk n td a d k o) nr nk n td came came 1 := by
  have hb := RI_bd hI
  unfold oChg
  split
  · rename_i q
    obtain ⟨h12, hp, -⟩ := tnC_n q
    obtain ⟨kk, hkk, rfl⟩ := (inN_iff (by have := hb.2.1; omega)).mp hp.2.1
    refine NX0_s (nn_nI (by have := hb.2.2.1; omega)) (NX1_plan hI hV h12 ?_ (fun q => absurd q (by decide)))
    by_cases h0 : o = 0
    · subst h0
      rw [if_pos rfl, if_neg (by decide)]
      refine Or.inr (fun e => ?_)
      have := nI_m9 (n := kk) (by have := hb.2.1; omega)
      rw [e] at this
      exact this.mp rfl
    · rw [if_neg h0]; exact Or.inl rfl
  · rename_i q
    exact NX0_n (i32neg q)
theorem nxBri (hI : RI r nr nk n td) (hV : IV r nr nk n td came) {a d s x : Int32} : NX0 r (oBri r nr n td a d s x) nr nk n td came came 1 := by
  have hb := RI_bd hI
  unfold oBri
  split
  · rename_i q
    obtain ⟨h12, hp, -⟩ := tnC_n q
    refine NX0_s (nn_nI (by have := hb.2.2.1; omega)) (NX1_plan hI hV h12 (Or.inl rfl) (fun _ => ?_))
    obtain ⟨x1, x2⟩ := hp.2
    rw [i32le, nIn (by omega)] at x1 x2
    obtain ⟨j, hj, e⟩ := i32of (x := x) (n := 300) (by omega) (by omega) (by omega)
    exact ⟨j, hj, e⟩
  · rename_i q
    exact NX0_n (i32neg q)
theorem nxCan (hI : RI r nr nk n td) (hV : IV r nr nk n td came) {t : Int32} : NX0 r (oCan r n t) nr nk n td came came (-1) := by
  have hb := RI_bd hI
  unfold oCan
  split
  · rename_i q
    obtain ⟨b1, b2, b3, b4⟩ := hb
    have h1 := ixx_in q (by omega)
    obtain ⟨i1, i2, i3, i0, -⟩ := hI
    obtain ⟨v1, v2, v3⟩ := hV
    refine NX0_s (nn_nI (by omega)) ⟨nr, nk, n - 1, td, ⟨b1, b2, by omega, b4⟩, by rw [rmT_at (by omega) (by omega)]; exact i1, by rw [rmT_at (by omega) (by omega)]; exact i2, rmT_3, by rw [rmT_at (by omega) (by omega)]; exact i0, ⟨SV_of b1 (fun j j1 j2 _ => rmT_at (by omega) (by omega)) v1, fun j hj => KVk_of (fun f hf _ => rmT_at (by omega) (by omega)) (v2 j hj), TV_rm v3⟩, ?_, Nat.le_refl _, Nat.le_refl _, Nat.le_refl _, by omega⟩
    unfold AC
    rw [rmT_3, rmT_at (by omega) (by omega), rmT_at (by omega) (by omega), i3]
    have e : nI n = nI (n - 1) + nI 1 := by rw [nI_add]; congr 1; omega
    rw [e, show nI 1 = 1 from rfl]
    grind
  · exact NX0_n (by decide)
theorem nxExc (hI : RI r nr nk n td) (hX : XI r nr nk n td) (hV : IV r nr nk n td came) {a b : Int32} : NX0 r (oExc r n a b) nr nk n td came came 0 := by
  have hb := RI_bd hI
  unfold oExc
  split
  · rename_i q
    obtain ⟨b1, b2, b3, b4⟩ := id hb
    have ha := ixx_in q.1 (by omega)
    have hb' := ixx_in q.2.1 (by omega)
    have hab : ixx a ≠ ixx b := by
      obtain ⟨ja, hja, rfl⟩ := (inN_iff (by omega)).mp q.1
      obtain ⟨jb, hjb, rfl⟩ := (inN_iff (by omega)).mp q.2.1
      rw [ixx_nI (by omega), ixx_nI (by omega)]
      intro e
      exact q.2.2 (by rw [e])
    generalize ixx a = a at *
    generalize ixx b = b at *
    split
    · rename_i hc
      obtain ⟨i1, i2, i3, i0, -⟩ := hI
      obtain ⟨v1, v2, v3⟩ := hV
      obtain ⟨k, hk, ek⟩ := (hX.2.2.2.2.2 b hb').2 hc.1.1.2
      refine NX0_s (by rw [ek]; exact nn_nI (by omega)) ⟨nr, nk, n, td, hb, by rw [zup_ne (by omega), zup_ne (by omega)]; exact i1, by rw [zup_ne (by omega), zup_ne (by omega)]; exact i2, by rw [zup_ne (by omega), zup_ne (by omega)]; exact i3, by rw [zup_ne (by omega), zup_ne (by omega)]; exact i0, ⟨SV_of b1 (fun j j1 j2 _ => by rw [zup_ne (by omega), zup_ne (by omega)]) v1, fun j hj => KVk_of (fun f hf _ => by rw [zup_ne (by omega), zup_ne (by omega)]) (v2 j hj), fun j hj => ?_⟩, AC_of (fun j j1 j2 => by rw [zup_ne (by omega), zup_ne (by omega)]), Nat.le_refl _, Nat.le_refl _, Nat.le_refl _, by omega⟩
      obtain ⟨t1, t2⟩ := v3 j hj
      refine ⟨?_, ?_⟩
      · rw [zup_ne (k := 337 + 8 * b + 4) (j := 337 + 8 * j + 3) (by omega), zup_ne (k := 337 + 8 * a + 4) (j := 337 + 8 * j + 3) (by omega)]
        by_cases hjb : j = b
        · subst hjb
          rw [zup_eq rfl]
          exact Or.inr hc.2
        · rw [zup_ne (k := 337 + 8 * b + 4) (by omega)]
          by_cases hja : j = a
          · subst hja
            rw [zup_eq rfl]
            exact Or.inr hc.1.2
          · rw [zup_ne (by omega)]
            exact t1
      · rw [zup_ne (by omega), zup_ne (by omega), zup_ne (by omega), zup_ne (by omega)]
        exact t2
    · exact NX0_n (by decide)
  · exact NX0_n (by decide)
theorem nxPass (hI : RI r nr nk n td) (hV : IV r nr nk n td came) {d : Int32} (hd : d ≤ nI 4) : NX0 r (oPass r nr nk td d) nr nk n td came came 0 := by
  have hb := RI_bd hI
  unfold oPass
  split
  · rename_i q
    obtain ⟨b1, b2, b3, b4⟩ := hb
    obtain ⟨j, hj1, hj2, rfl, hj3⟩ := psC_d b4 q
    rw [nI_leI (by omega) (by omega)] at hd
    rw [ixx_nI (by omega)]
    obtain ⟨n', hn', hI', hV', hA⟩ := pN_iv j r n td (nI 0) hI hV hj3
    obtain ⟨c, hc, ec⟩ := pN_mi j r n td 0 hI hj3
    refine NX0_s (by rw [ec]; exact nn_nI (by omega)) ⟨nr, nk, n', td + j, RI_bd hI', hI'.1, hI'.2.1, hI'.2.2.1, hI'.2.2.2.1, hV', hA, Nat.le_refl _, Nat.le_refl _, by omega, by omega⟩
  · rename_i q
    exact NX0_n (i32neg q)
end NX
