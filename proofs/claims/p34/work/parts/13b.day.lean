/-! The law's invariant over a day. -/
def KS (r r' : Nat → Int32) : Prop := ∀ k f, k < 8 → f < 7 → f ≠ 1 → r' (281 + 7 * k + f) = r (281 + 7 * k + f)
def AC (r r' : Nat → Int32) (d : Int32) : Prop := r' 3 + r' 4 + r' 5 = r 3 + r 4 + r 5 + d
theorem KS_rf (r : Nat → Int32) : KS r r := fun _ _ _ _ _ => rfl
theorem KS_tr {a b c : Nat → Int32} (h : KS a b) (g : KS b c) : KS a c := fun k f hk hf h1 => (g k f hk hf h1).trans (h k f hk hf h1)
theorem AC_rf (r : Nat → Int32) : AC r r 0 := by unfold AC; rw [Int32.add_zero]
theorem AC_tr {a b c : Nat → Int32} {d e : Int32} (h : AC a b d) (g : AC b c e) : AC a c (d + e) := by unfold AC at *; rw [g, h]; grind
theorem AC_tr0 {a b c : Nat → Int32} (h : AC a b 0) (g : AC b c 0) : AC a c 0 := by have := AC_tr h g; rwa [Int32.add_zero] at this
theorem AC_of {a b : Nat → Int32} (h : ∀ k, 3 ≤ k → k ≤ 5 → b k = a k) : AC a b 0 := by
  unfold AC; rw [h 3 (by omega) (by omega), h 4 (by omega) (by omega), h 5 (by omega) (by omega), Int32.add_zero]
def GB (r : Nat → Int32) (n nr nk td : Nat) : Prop := GI r n nr nk td ∧ KP r nr nk ∧ r 1 = nI nr ∧ SV r nr ∧ TV r n ∧ FL r nr
theorem GB_miss {r : Nat → Int32} {n nr nk td t : Nat} (h : GB r n nr nk td) (ht : t < n) : GB (zup (zup r (337 + 8 * t + 2) (r 0 + nI 1)) (221 + 20 * ixx (r (337 + 8 * t + 1)) + 4) (nI 1)) n nr nk td ∧ KS r (zup (zup r (337 + 8 * t + 2) (r 0 + nI 1)) (221 + 20 * ixx (r (337 + 8 * t + 1)) + 4) (nI 1)) ∧ AC r (zup (zup r (337 + 8 * t + 2) (r 0 + nI 1)) (221 + 20 * ixx (r (337 + 8 * t + 1)) + 4) (nI 1)) 0 := by
  obtain ⟨hG, hK, h1, hS, hT, hF⟩ := h
  have hb := hG.2.2.2.1
  have hW := hG.2.2.2.2 t ht
  have i1 := ixx_lt hW.1 (by omega)
  have h0 := hG.2.2.1
  have e0 : r 0 + nI 1 = nI (td + 1) := by rw [h0, nI_add]
  generalize ixx (r (337 + 8 * t + 1)) = i0 at *
  refine ⟨⟨?_, KP_of (fun k hk => by rw [zup_ne (by omega), zup_ne (by omega)]) hK, by rw [zup_ne (by omega), zup_ne (by omega)]; exact h1, SV_of hb.2.2.1 (fun k k1 k2 k3 => by rw [zup_ne (k3 i0).2, zup_ne (by omega)]) hS, fun u hu => TVt_of (fun f hf hf2 => by rw [zup_ne (by omega), zup_ne (by omega)]) (hT u hu), fun i hi => ?_⟩, fun k f hk hf hf1 => by rw [zup_ne (by omega), zup_ne (by omega)], AC_of (fun k k1 k2 => by rw [zup_ne (by omega), zup_ne (by omega)])⟩
  · rw [e0]
    exact GI_up (GI_day hG (by omega)) (by omega)
  · by_cases e : i = i0
    · subst e
      exact ⟨1, Nat.le_refl 1, zup_eq rfl⟩
    · rw [zup_ne (by omega), zup_ne (by omega)]
      exact hF i hi
theorem dT_move {r : Nat → Int32} {t nr nk : Nat} (hnk : nk ≤ 8) (hW : TW r t nr nk) (h2 : r (337 + 8 * t + 0) ≠ nI 2) {k : Nat} (hk : ∀ j, j < 8 → k ≠ 281 + 7 * j + 1) : dT r t k = r k := by
  obtain ⟨-, -, hc, hg, -⟩ := hW
  have ac : r (337 + 8 * t + 3) ≠ -9 → ixx (r (337 + 8 * t + 3)) < 8 := fun e => by
    have := ixx_lt (hc.resolve_left e) (by omega)
    omega
  have ag : r (337 + 8 * t + 4) ≠ -9 → ixx (r (337 + 8 * t + 4)) < 8 := fun e => by
    have := ixx_lt (hg.resolve_left e) (by omega)
    omega
  unfold dT
  rw [if_neg h2]
  split
  · split
    · rfl
    · rw [zup_ne (hk _ (ag (by assumption)))]
  · split
    · rw [zup_ne (hk _ (ac (by assumption)))]
    · rw [zup_ne (hk _ (ag (by assumption))), zup_ne (hk _ (ac (by assumption)))]
theorem dT_del {r : Nat → Int32} {t nr nk : Nat} (hnr : nr ≤ 3) (hW : TW r t nr nk) (h2 : r (337 + 8 * t + 0) = nI 2) : ∃ i s, i < nr ∧ s < 3 ∧ dT r t = zup (zup r (221 + 20 * i + 5 + 5 * s + 0) (r (221 + 20 * i + 5 + 5 * s + 0) + lss (r (337 + 8 * t + 6)) (nI 999 - r (221 + 20 * i + 5 + 5 * s + 0)))) (221 + 20 * i + 5 + 5 * s + 4) (r (221 + 20 * i + 5 + 5 * s + 4) + lss (r (337 + 8 * t + 6)) (nI 999 - r (221 + 20 * i + 5 + 5 * s + 0))) := by
  obtain ⟨⟨i, hi, ei⟩, -, -, -, hkd⟩ := hW
  rcases hkd with ⟨-, -, -, s, hs, es⟩ | ⟨h0', -⟩
  rotate_left
  · exact absurd h2 h0'
  refine ⟨i, s, hi, hs, ?_⟩
  unfold dT
  rw [if_pos h2, ei, es, ixx_nI (by omega), ixx_nI (by omega)]
theorem SV_dT {r : Nat → Int32} {t nr nk : Nat} (hnr : nr ≤ 3) (hnk : nk ≤ 8) (hW : TW r t nr nk) (hT : TVt r t) (hS : SV r nr) : SV (dT r t) nr := by
  by_cases h2 : r (337 + 8 * t + 0) = nI 2
  · obtain ⟨i, s, hi, hs, e⟩ := dT_del hnr hW h2
    obtain ⟨m, hm, em⟩ := hT.2 h2
    intro i' hi' s' hs'
    by_cases h : i' = i ∧ s' = s
    · obtain ⟨rfl, rfl⟩ := h
      refine SVs_add (m := m) hm rfl ?_ ?_ ?_ ?_ (hS i' hi' s' hs')
      · rw [e, em]; simp (disch := omega) only [zup_ne, zup_eq]
      · rw [e, em]; simp (disch := omega) only [zup_ne, zup_eq]
      · rw [e]; simp (disch := omega) only [zup_ne]
      · rw [e]; simp (disch := omega) only [zup_ne]
    · exact SVs_of (fun f hf => by rw [e]; simp (disch := omega) only [zup_ne]) (hS i' hi' s' hs')
  · exact SV_of hnr (fun k k1 k2 _ => dT_move hnk hW h2 (fun j hj => by omega)) hS
theorem FL_dT {r : Nat → Int32} {t nr nk : Nat} (hnr : nr ≤ 3) (hnk : nk ≤ 8) (hW : TW r t nr nk) (hF : FL r nr) : FL (dT r t) nr := by
  intro i hi
  by_cases h2 : r (337 + 8 * t + 0) = nI 2
  · obtain ⟨i', s, hi', hs, e⟩ := dT_del hnr hW h2
    rw [e]
    simp (disch := omega) only [zup_ne]
    exact hF i hi
  · rw [dT_move hnk hW h2 (fun j hj => by omega)]
    exact hF i hi
theorem KS_dT {r : Nat → Int32} {t nr nk : Nat} (hnr : nr ≤ 3) (hnk : nk ≤ 8) (hW : TW r t nr nk) : KS r (dT r t) := by
  intro k f hk hf h1
  by_cases h2 : r (337 + 8 * t + 0) = nI 2
  · obtain ⟨i', s, hi', hs, e⟩ := dT_del hnr hW h2
    rw [e]
    simp (disch := omega) only [zup_ne]
  · exact dT_move hnk hW h2 (fun j hj => by omega)
theorem GB_rm {r : Nat → Int32} {n nr nk td t : Nat} (h : GB r n nr nk td) (ht : t < n) : GB (rmT r t n) (n - 1) nr nk td := by
  obtain ⟨hG, hK, h1, hS, hT, hF⟩ := h
  have hb := hG.2.2.2.1
  exact ⟨GI_rm hG ht, KP_of (fun k hk => rmT_at (by omega) (by omega)) hK, by rw [rmT_at (by omega) (by omega)]; exact h1, SV_of hb.2.2.1 (fun k k1 k2 _ => rmT_at (by omega) (by omega)) hS, TV_rm hT, fun i hi => by rw [rmT_at (by omega) (by omega)]; exact hF i hi⟩
theorem GB_up {r : Nat → Int32} {n nr nk td k : Nat} {x : Int32} (h : GB r n nr nk td) (hk : 4 ≤ k ∧ k < 7) : GB (zup r k x) n nr nk td := by
  obtain ⟨hG, hK, h1, hS, hT, hF⟩ := h
  have hb := hG.2.2.2.1
  exact ⟨GI_up hG (by omega), KP_of (fun k hk => zup_ne (by omega)) hK, by rw [zup_ne (by omega)]; exact h1, SV_of hb.2.2.1 (fun k k1 k2 _ => zup_ne (by omega)) hS, fun u hu => TVt_of (fun f hf _ => zup_ne (by omega)) (hT u hu), fun i hi => by rw [zup_ne (by omega)]; exact hF i hi⟩
theorem GB_dT {r : Nat → Int32} {n nr nk td t : Nat} (h : GB r n nr nk td) (ht : t < n) : GB (dT r t) n nr nk td := by
  obtain ⟨hG, hK, h1, hS, hT, hF⟩ := h
  have hb := hG.2.2.2.1
  have hW := hG.2.2.2.2 t ht
  have e : ∀ k, k < 221 ∨ 337 ≤ k → dT r t k = r k := fun k hk => dT_at hb.2.2.1 hb.2.2.2 hW hk
  exact ⟨GI_dT hG ht, dT_pl hb.2.2.1 hb.2.2.2 hW hK, by rw [e _ (by omega)]; exact h1, SV_dT hb.2.2.1 hb.2.2.2 hW (hT t ht) hS, fun u hu => TVt_of (fun f hf _ => e _ (by omega)) (hT u hu), FL_dT hb.2.2.1 hb.2.2.2 hW hF⟩
theorem KS_up {r : Nat → Int32} {k : Nat} {x : Int32} (hk : k < 281) : KS r (zup r k x) := fun j f hj hf _ => zup_ne (by omega)
theorem KS_rm {r : Nat → Int32} {t n : Nat} : KS r (rmT r t n) := fun j f hj hf _ => rmT_at (by omega) (by omega)
theorem AC_rm {r : Nat → Int32} {t n : Nat} {k : Nat} (hk : k = 4 ∨ k = 5) (h3 : r 3 = nI n) (ht : t < n) {r0 : Nat → Int32} (e : ∀ k, 3 ≤ k → k ≤ 5 → r k = r0 k) : AC r0 (rmT (zup r k (r k + nI 1)) t n) 0 := by
  have e3 : r0 3 = nI (n - 1) + nI 1 := by rw [nI_add, ← e 3 (by omega) (by omega), h3]; congr 1; omega
  unfold AC
  rw [rmT_3, rmT_at (by omega) (by omega), rmT_at (by omega) (by omega), e3]
  rcases hk with rfl | rfl
  · rw [zup_eq rfl, zup_ne (by omega), e 4 (by omega) (by omega), e 5 (by omega) (by omega)]
    grind
  · rw [zup_eq rfl, zup_ne (by omega), e 4 (by omega) (by omega), e 5 (by omega) (by omega)]
    grind
theorem gT_iv {nk nr td : Nat} (d : Nat) : ∀ (r : Nat → Int32) (t n : Nat) (mi tg : Int32), t + d = n → GB r n nr nk td → ∃ n', n' ≤ n ∧ GB (gT nk d r t n mi tg).1 n' nr nk td ∧ KS r (gT nk d r t n mi tg).1 ∧ AC r (gT nk d r t n mi tg).1 0 := by
  induction d with
  | zero => intro r t n mi tg _ hG; exact ⟨n, Nat.le_refl n, hG, KS_rf r, AC_rf r⟩
  | succ d ih =>
    intro r t n mi tg ht hB
    have hb := hB.1.2.2.2.1
    have hW := hB.1.2.2.2.2 t (by omega)
    have h3 := hB.1.1
    unfold gT
    split
    · exact ih _ _ _ _ _ (by omega) hB
    · split
      · obtain ⟨b1, b2, b3⟩ := GB_miss hB (t := t) (by omega)
        obtain ⟨n', c1, c2, c3, c4⟩ := ih _ (t + 1) n (mi + nI 1) tg (by omega) b1
        exact ⟨n', c1, c2, KS_tr b2 c3, AC_tr0 b3 c4⟩
      · split
        · have e : ∀ k, k < 221 ∨ 337 ≤ k → dT r t k = r k := fun k hk => dT_at hb.2.2.1 hb.2.2.2 hW hk
          have b1 := GB_rm (GB_up (k := 4) (x := dT r t 4 + nI 1) (GB_dT hB (t := t) (by omega)) (by omega)) (t := t) (by omega)
          obtain ⟨n', c1, c2, c3, c4⟩ := ih _ t (n - 1) mi (tg ||| (nI 1 <<< (r (337 + 8 * t + 7) &&& 31))) (by omega) b1
          exact ⟨n', by omega, c2, KS_tr (KS_tr (KS_dT hb.2.2.1 hb.2.2.2 hW) (KS_tr (KS_up (by omega)) KS_rm)) c3, AC_tr0 (AC_rm (Or.inl rfl) (by rw [e _ (by omega)]; exact h3) (by omega) (fun k k1 k2 => e k (by omega))) c4⟩
        · have b1 := GB_rm (GB_up (k := 5) (x := r 5 + nI 1) hB (by omega)) (t := t) (by omega)
          obtain ⟨n', c1, c2, c3, c4⟩ := ih _ t (n - 1) mi tg (by omega) b1
          exact ⟨n', by omega, c2, KS_tr (KS_tr (KS_up (by omega)) KS_rm) c3, AC_tr0 (AC_rm (Or.inr rfl) h3 (by omega) (fun k _ _ => rfl)) c4⟩
theorem KV_rK {nk td : Nat} (hnk : nk ≤ 8) {came : Nat → Int32} (d : Nat) : ∀ (r : Nat → Int32) (i : Nat), i + d = nk → (∀ k, k < i → KVk r k (td + 1) (came k)) → (∀ k, i ≤ k → k < nk → KVk r k td (came k)) → (∀ k, k < nk → r (281 + 7 * k + 1) = -9 ∨ (ixx (r (281 + 7 * k + 1)) < 3 ∧ ∃ f : Nat, f ≤ 1 ∧ r (221 + 20 * ixx (r (281 + 7 * k + 1)) + 4) = nI f)) → KV (rK d r i) nk (td + 1) came := by
  induction d with
  | zero => intro r i hi h1 h2 h3 k hk; exact h1 k (by omega)
  | succ d ih =>
    intro r i hi h1 h2 h3
    unfold rK
    have e1 : ∀ k, rkF r i (281 + 7 * k + 1) = r (281 + 7 * k + 1) := fun k => rkF_at (by omega)
    refine ih _ _ (by omega) (fun k hk => ?_) (fun k k1 k2 => KVk_of (fun f hf hf1 => rkF_at (by omega)) (h2 k (by omega) k2)) (fun k hk => ?_)
    · by_cases e : k = i
      · subst e
        refine KVk_rk ?_ (h2 k (by omega) (by omega))
        exact (h3 k (by omega)).imp id (fun q => q.2)
      · exact KVk_of (fun f hf hf1 => rkF_at (by omega)) (h1 k (by omega))
    · rw [e1]
      refine (h3 k hk).imp id (fun q => ⟨q.1, ?_⟩)
      rw [rkF_at (by omega)]
      exact q.2
theorem eD_fl {nk d i u : Nat} {r : Nat → Int32} (hd : i + d ≤ 3) (hu : u < 3) : eD nk d r i (221 + 20 * u + 4) = r (221 + 20 * u + 4) := by
  induction d generalizing r i with
  | zero => rfl
  | succ d ih => unfold eD; rw [ih (by omega), zup_ne (by omega), eaF_at (by omega)]
theorem pD_iv {r : Nat → Int32} {nr nk n td : Nat} {came : Nat → Int32} (hI : RI r nr nk n td) (hV : IV r nr nk n td came) (htd : td < 199) : ∃ n', n' ≤ n ∧ RI (pD r nr nk n).1 nr nk n' (td + 1) ∧ IV (pD r nr nk n).1 nr nk n' (td + 1) came ∧ AC r (pD r nr nk n).1 0 := by
  obtain ⟨n', hn', hI'⟩ := pD_keep hI htd
  refine ⟨n', hn', hI', ?_⟩
  obtain ⟨i1, i2, i3, i0, hb, hT, hK⟩ := hI
  obtain ⟨v1, v2, v3⟩ := hV
  have hG : GI r n nr nk td := ⟨i3, i2, i0, ⟨htd, hb.2.1, hb.2.2⟩, hT⟩
  have hB : GB (zD nr r 0) n nr nk td := ⟨GI_of (fun k hk => zD_at (by omega)) hG, KP_of (fun k hk => zD_at (by omega)) hK, by rw [zD_at (by omega)]; exact i1, SV_of hb.2.2.1 (fun k k1 k2 k3 => zD_at (fun u _ _ => (k3 u).2)) v1, fun u hu => TVt_of (fun f hf _ => zD_at (by omega)) (v3 u hu), fun i hi => ⟨0, by omega, zD_in (by omega) (by omega)⟩⟩
  obtain ⟨n2, hn2, ⟨gG, gK, g1, gS, gT', gF⟩, gKS, gAC⟩ := gT_iv n (zD nr r 0) 0 n (nI 0) (nI 0) (by omega) hB
  have p3 : (pD r nr nk n).1 3 = nI n2 := by
    unfold pD
    simp only
    rw [zup_ne (by omega), zD_at (by omega), rK_at (by omega) (by omega), eD_at (by omega) (by omega), zup_ne (by omega)]
    exact gG.1
  have en : n' = n2 := nIinj (by omega) (by omega) (hI'.2.2.1.symm.trans p3)
  subst en
  have zz : ∀ k, (k < 221 ∨ 337 ≤ k) → k ≠ 0 → k ≠ 6 → (pD r nr nk n).1 k = (gT nk n (zD nr r 0) 0 n (nI 0) (nI 0)).1 k := by
    intro k hk h0 h6
    unfold pD
    simp only
    rw [zup_ne h0, zD_at (by omega), rK_at (by omega) (by omega), eD_at (by omega) (by omega), zup_ne h6]
  refine ⟨⟨?_, ?_, fun u hu => TVt_of (fun f hf _ => zz _ (by omega) (by omega) (by omega)) (gT' u hu)⟩, ?_⟩
  · unfold pD
    simp only
    refine SV_of hb.2.2.1 (fun k k1 k2 _ => zup_ne (by omega)) ?_
    refine SV_of hb.2.2.1 (fun k k1 k2 k3 => zD_at (fun u _ _ => (k3 u).2)) ?_
    refine SV_of hb.2.2.1 (fun k k1 k2 _ => rK_at (by omega) (by omega)) ?_
    refine SV_eD hb.2.2.1 hb.2.2.2 nr _ 0 (by omega) ?_
    exact SV_of hb.2.2.1 (fun k k1 k2 _ => zup_ne (by omega)) gS
  · have hV2 : ∀ k, k < nk → KVk (eD nk nr (zup (gT nk n (zD nr r 0) 0 n (nI 0) (nI 0)).1 6 ((gT nk n (zD nr r 0) 0 n (nI 0) (nI 0)).1 6 + (gT nk n (zD nr r 0) 0 n (nI 0) (nI 0)).2.1)) 0) k td (came k) := by
      intro k hk
      refine KVk_of (fun f hf hf1 => ?_) (v2 k hk)
      rw [eD_at (by omega) (by omega), zup_ne (by omega), gKS k f (by omega) hf hf1, zD_at (by omega)]
    have hV3 := KV_rK hb.2.2.2 (td := td) (came := came) nk _ 0 (by omega) (fun k hk => by omega) (fun k _ hk => hV2 k hk) (fun k hk => by
      rw [eD_at (by omega) (by omega), zup_ne (by omega)]
      rcases gK k hk with q | ⟨i, hi, q⟩
      · exact Or.inl q
      · rw [q, ixx_nI (by omega)]
        refine Or.inr ⟨by omega, ?_⟩
        rw [eD_fl (by omega) (by omega), zup_ne (by omega)]
        exact gF i hi)
    intro k hk
    unfold pD
    simp only
    exact KVk_of (fun f hf hf1 => by rw [zup_ne (by omega), zD_at (by omega)]) (hV3 k hk)
  · unfold AC at gAC ⊢
    rw [zz 3 (by omega) (by omega) (by omega), zz 4 (by omega) (by omega) (by omega), zz 5 (by omega) (by omega) (by omega), gAC, zD_at (by omega), zD_at (by omega), zD_at (by omega)]
theorem pN_iv {nr nk : Nat} {came : Nat → Int32} (d : Nat) : ∀ (r : Nat → Int32) (n td : Nat) (mi : Int32), RI r nr nk n td → IV r nr nk n td came → td + d ≤ 199 → ∃ n', n' ≤ n ∧ RI (pN nr nk d r mi).1 nr nk n' (td + d) ∧ IV (pN nr nk d r mi).1 nr nk n' (td + d) came ∧ AC r (pN nr nk d r mi).1 0 := by
  induction d with
  | zero => intro r n td mi hI hV _; exact ⟨n, Nat.le_refl n, hI, hV, AC_rf r⟩
  | succ d ih =>
    intro r n td mi hI hV htd
    obtain ⟨n1, a1, a2, a3, a4⟩ := pD_iv hI hV (by omega)
    unfold pN
    have e3 : ixx (r 3) = n := by rw [hI.2.2.1, ixx_nI (by have := hI.2.2.2.2.1; omega)]
    rw [e3]
    obtain ⟨n', b1, b2, b3, b4⟩ := ih _ n1 (td + 1) (mi + (pD r nr nk n).2.1) a2 a3 (by omega)
    rw [show td + (d + 1) = td + 1 + d by omega]
    exact ⟨n', by omega, b2, b3, AC_tr0 a4 b4⟩
