/-! How many turns are told to be done in the next days. -/
theorem ct_add {p q : Nat → Prop} [DecidablePred p] [DecidablePred q] {w : Nat → Prop} [DecidablePred w] : ∀ (n : Nat), (∀ k, k < n → (w k ↔ p k ∨ q k)) → (∀ k, k < n → p k → ¬ q k) → ct w n = ct p n + ct q n
  | 0, _, _ => rfl
  | n + 1, h, g => by
    unfold ct
    rw [ct_add n (fun k hk => h k (by omega)) (fun k hk => g k (by omega))]
    have h1 := h n (by omega)
    have g1 := g n (by omega)
    by_cases hp : p n
    · rw [if_pos (h1.mpr (Or.inl hp)), if_pos hp, if_neg (g1 hp)]; omega
    · by_cases hq : q n
      · rw [if_pos (h1.mpr (Or.inr hq)), if_neg hp, if_pos hq]; omega
      · rw [if_neg (fun e => (h1.mp e).elim hp hq), if_neg hp, if_neg hq]; omega
theorem ct_no {p : Nat → Prop} [DecidablePred p] : ∀ (n : Nat), (∀ k, k < n → ¬ p k) → ct p n = 0
  | 0, _ => rfl
  | n + 1, h => by unfold ct; rw [ct_no n (fun k hk => h k (by omega)), if_neg (h n (by omega))]
theorem ct_one {j : Nat} : ∀ (n : Nat), j < n → ct (fun b => b = j) n = 1
  | 0, h => by omega
  | n + 1, h => by
    unfold ct
    by_cases e : n = j
    · rw [if_pos e, ct_no n (fun k hk => by omega)]
    · rw [if_neg e, ct_one n (by omega)]
theorem ct_more {p : Nat → Prop} [DecidablePred p] {n : Nat} : ∀ (m : Nat), n ≤ m → (∀ k, n ≤ k → k < m → ¬ p k) → ct p m = ct p n
  | 0, h, _ => by
    have : n = 0 := by omega
    rw [this]
  | m + 1, h, g => by
    by_cases e : n = m + 1
    · rw [e]
    · rw [show ct p (m + 1) = ct p m + if p m then 1 else 0 from rfl, if_neg (g m (by omega) (by omega)), ct_more m (by omega) (fun k h1 h2 => g k h1 (by omega))]
      omega
/-- the tags of a row's turns, and the days from which they are planned -/
def TG (r : Nat → Int32) (n : Nat) (τ δ : Nat → Nat) : Prop := (∀ u, u < n → τ u < 12 ∧ r (337 + 8 * u + 7) = nI (τ u) ∧ ∃ dd, dd < 200 ∧ r (337 + 8 * u + 2) = nI dd ∧ δ (τ u) ≤ dd) ∧ ∀ u v, u < n → v < n → τ u = τ v → u = v
theorem TG_of {r r' : Nat → Int32} {n : Nat} {τ δ : Nat → Nat} (h : ∀ k, 337 ≤ k → r' k = r k) (hT : TG r n τ δ) : TG r' n τ δ := ⟨fun u hu => by rw [h _ (by omega), h _ (by omega)]; exact hT.1 u hu, hT.2⟩
def rmN (τ : Nat → Nat) (t : Nat) : Nat → Nat := fun u => if u < t then τ u else τ (u + 1)
theorem TG_rm {r : Nat → Int32} {n t : Nat} {τ δ : Nat → Nat} (hT : TG r n τ δ) (ht : t < n) : TG (rmT r t n) (n - 1) (rmN τ t) δ := by
  refine ⟨fun u hu => ?_, fun u v hu hv e => ?_⟩
  · unfold rmN
    by_cases h : u < t
    · rw [if_pos h, rmT_at (by omega) (by omega), rmT_at (by omega) (by omega)]
      exact hT.1 u (by omega)
    · rw [if_neg h, rmT_sh (by omega) (by omega) hu, rmT_sh (by omega) (by omega) hu]
      exact hT.1 (u + 1) (by omega)
  · unfold rmN at e
    by_cases h : u < t
    · rw [if_pos h] at e
      by_cases h2 : v < t
      · rw [if_pos h2] at e; exact hT.2 u v (by omega) (by omega) e
      · rw [if_neg h2] at e; have := hT.2 u (v + 1) (by omega) (by omega) e; omega
    · rw [if_neg h] at e
      by_cases h2 : v < t
      · rw [if_pos h2] at e; have := hT.2 (u + 1) v (by omega) (by omega) e; omega
      · rw [if_neg h2] at e; have := hT.2 (u + 1) (v + 1) (by omega) (by omega) e; omega
theorem rmN_old {τ : Nat → Nat} {t n u : Nat} (hu : u < n - 1) : ∃ v, v < n ∧ v ≠ t ∧ rmN τ t u = τ v := by
  unfold rmN
  by_cases h : u < t
  · exact ⟨u, by omega, by omega, if_pos h⟩
  · exact ⟨u + 1, by omega, by omega, if_neg h⟩
theorem gT_tags {nk nr td : Nat} {δ : Nat → Nat} (d : Nat) : ∀ (r : Nat → Int32) (t n : Nat) (mi tg : Int32) (τ : Nat → Nat), t + d = n → GI r n nr nk td → TG r n τ δ → ∃ (n' : Nat) (τ' : Nat → Nat) (D : Nat → Bool), n' ≤ n ∧ (gT nk d r t n mi tg).1 3 = nI n' ∧ TG (gT nk d r t n mi tg).1 n' τ' δ ∧ (∀ b, b < 12 → (bit b (gT nk d r t n mi tg).2.2 ↔ bit b tg ∨ D b = true)) ∧ (∀ b, b < 12 → D b = true → δ b ≤ td ∧ ∃ u, u < n ∧ τ u = b) ∧ (∀ u, u < n' → (∃ v, v < n ∧ τ v = τ' u) ∧ ¬ D (τ' u) = true) ∧ (gT nk d r t n mi tg).1 4 = r 4 + nI (ct (fun b => D b = true) 12) := by
  induction d with
  | zero =>
    intro r t n mi tg τ ht hG hT
    refine ⟨n, τ, fun _ => false, Nat.le_refl n, hG.1, hT, fun b hb => ⟨fun q => Or.inl q, fun q => q.elim id (fun e => by cases e)⟩, fun b hb e => (by cases e), fun u hu => ⟨⟨u, hu, rfl⟩, fun e => (by cases e)⟩, ?_⟩
    rw [ct_no 12 (fun k hk e => by cases e)]
    show r 4 = r 4 + 0
    rw [Int32.add_zero]
  | succ d ih =>
    intro r t n mi tg τ ht hG hT
    have hb := hG.2.2.2.1
    have hW := hG.2.2.2.2 t (by omega)
    have h0 := hG.2.2.1
    have i1 := ixx_lt hW.1 (by omega)
    unfold gT
    split
    · exact ih _ _ _ _ _ τ (by omega) hG hT
    rename_i hday
    have hday : r (337 + 8 * t + 2) = r 0 := Classical.not_not.mp hday
    split
    · have e0 : r 0 + nI 1 = nI (td + 1) := by rw [h0, nI_add]
      have hG' : GI (zup (zup r (337 + 8 * t + 2) (r 0 + nI 1)) (221 + 20 * ixx (r (337 + 8 * t + 1)) + 4) (nI 1)) n nr nk td := by
        rw [e0]; exact GI_up (GI_day hG (by omega)) (by omega)
      have hT' : TG (zup (zup r (337 + 8 * t + 2) (r 0 + nI 1)) (221 + 20 * ixx (r (337 + 8 * t + 1)) + 4) (nI 1)) n τ δ := by
        refine ⟨fun u hu => ?_, hT.2⟩
        obtain ⟨t1, t2, dd, t3, t4, t5⟩ := hT.1 u hu
        rw [zup_ne (by omega), zup_ne (by omega), zup_ne (k := 221 + 20 * ixx (r (337 + 8 * t + 1)) + 4) (by omega)]
        refine ⟨t1, t2, ?_⟩
        by_cases e : u = t
        · subst e
          rw [zup_eq rfl, e0]
          rw [hday, h0, nI_eq (by omega) (by omega)] at t4
          exact ⟨td + 1, by omega, rfl, by omega⟩
        · rw [zup_ne (by omega)]
          exact ⟨dd, t3, t4, t5⟩
      obtain ⟨n', τ', D, c1, c2, c3, c4, c5, c6, c7⟩ := ih _ (t + 1) n (mi + nI 1) tg τ (by omega) hG' hT'
      exact ⟨n', τ', D, c1, c2, c3, c4, c5, c6, by rw [c7, zup_ne (by omega), zup_ne (by omega)]⟩
    · split
      · have e : ∀ k, k < 221 ∨ 337 ≤ k → dT r t k = r k := fun k hk => dT_at hb.2.2.1 hb.2.2.2 hW hk
        have hG' := GI_rm (GI_up (k := 4) (x := dT r t 4 + nI 1) (GI_dT hG (t := t) (by omega)) (by omega)) (t := t) (by omega)
        have hT' : TG (rmT (zup (dT r t) 4 (dT r t 4 + nI 1)) t n) (n - 1) (rmN τ t) δ := TG_rm (TG_of (fun k hk => by rw [zup_ne (by omega), e _ (by omega)]) hT) (by omega)
        obtain ⟨t1, t2, dd, t3, t4, t5⟩ := hT.1 t (by omega)
        obtain ⟨n', τ', D, c1, c2, c3, c4, c5, c6, c7⟩ := ih _ t (n - 1) mi (tg ||| (nI 1 <<< (r (337 + 8 * t + 7) &&& 31))) (rmN τ t) (by omega) hG' hT'
        have hnD : ¬ D (τ t) = true := fun q => by
          obtain ⟨-, u, hu, eu⟩ := c5 _ t1 q
          obtain ⟨v, hv, hvt, ev⟩ := rmN_old (τ := τ) (t := t) hu
          exact hvt (hT.2 v t hv (by omega) (ev.symm.trans eu))
        refine ⟨n', τ', fun b => D b || decide (b = τ t), by omega, c2, c3, fun b hb => ?_, fun b hb q => ?_, fun u hu => ?_, ?_⟩
        · rw [c4 b hb, bit_or, t2, show bit b (nI 1 <<< (nI (τ t) &&& 31)) ↔ τ t = b from tb_iff _ t1 b hb]
          simp only [Bool.or_eq_true, decide_eq_true_eq]
          constructor
          · rintro ((q | q) | q)
            · exact Or.inl q
            · exact Or.inr (Or.inr q.symm)
            · exact Or.inr (Or.inl q)
          · rintro (q | q | q)
            · exact Or.inl (Or.inl q)
            · exact Or.inr q
            · exact Or.inl (Or.inr q.symm)
        · simp only [Bool.or_eq_true, decide_eq_true_eq] at q
          rcases q with q | q
          · obtain ⟨q1, u, hu, eu⟩ := c5 b hb q
            obtain ⟨v, hv, -, ev⟩ := rmN_old (τ := τ) (t := t) hu
            exact ⟨q1, v, hv, ev.symm.trans eu⟩
          · rw [hday, h0, nI_eq (by omega) (by omega)] at t4
            exact ⟨by rw [q]; omega, t, by omega, q.symm⟩
        · obtain ⟨⟨v, hv, ev⟩, h2⟩ := c6 u hu
          obtain ⟨v', hv', hvt, ev'⟩ := rmN_old (τ := τ) (t := t) hv
          refine ⟨⟨v', hv', ev'.symm.trans ev⟩, ?_⟩
          simp only [Bool.or_eq_true, decide_eq_true_eq]
          rintro (q | q)
          · exact h2 q
          · exact hvt (hT.2 v' t hv' (by omega) ((ev'.symm.trans ev).trans q))
        · have hc : ct (fun b => (D b || decide (b = τ t)) = true) 12 = ct (fun b => D b = true) 12 + ct (fun b => b = τ t) 12 := ct_add 12 (fun k hk => by simp only [Bool.or_eq_true, decide_eq_true_eq]) (fun k hk q1 q2 => hnD (q2 ▸ q1))
          rw [c7, hc, ct_one 12 t1, rmT_at (by omega) (by omega), zup_eq rfl, e 4 (by omega), ← nI_add]
          grind
      · have hG' := GI_rm (GI_up (k := 5) (x := r 5 + nI 1) hG (by omega)) (t := t) (by omega)
        have hT' : TG (rmT (zup r 5 (r 5 + nI 1)) t n) (n - 1) (rmN τ t) δ := TG_rm (TG_of (fun k hk => zup_ne (by omega)) hT) (by omega)
        obtain ⟨n', τ', D, c1, c2, c3, c4, c5, c6, c7⟩ := ih _ t (n - 1) mi tg (rmN τ t) (by omega) hG' hT'
        refine ⟨n', τ', D, by omega, c2, c3, c4, fun b hb q => ?_, fun u hu => ?_, ?_⟩
        · obtain ⟨q1, u, hu, eu⟩ := c5 b hb q
          obtain ⟨v, hv, -, ev⟩ := rmN_old (τ := τ) (t := t) hu
          exact ⟨q1, v, hv, ev.symm.trans eu⟩
        · obtain ⟨⟨v, hv, ev⟩, h2⟩ := c6 u hu
          obtain ⟨v', hv', hvt, ev'⟩ := rmN_old (τ := τ) (t := t) hv
          exact ⟨⟨v', hv', ev'.symm.trans ev⟩, h2⟩
        · rw [c7, rmT_at (by omega) (by omega), zup_ne (by omega)]
theorem pD_tags {r : Nat → Int32} {nr nk n td : Nat} {τ δ : Nat → Nat} (hI : RI r nr nk n td) (htd : td < 199) (hT : TG r n τ δ) : ∃ (n' : Nat) (τ' : Nat → Nat) (D : Nat → Bool), n' ≤ n ∧ RI (pD r nr nk n).1 nr nk n' (td + 1) ∧ TG (pD r nr nk n).1 n' τ' δ ∧ (∀ b, b < 12 → (bit b (pD r nr nk n).2.2 ↔ D b = true)) ∧ (∀ b, b < 12 → D b = true → δ b ≤ td ∧ ∃ u, u < n ∧ τ u = b) ∧ (∀ u, u < n' → (∃ v, v < n ∧ τ v = τ' u) ∧ ¬ D (τ' u) = true) ∧ (pD r nr nk n).1 4 = r 4 + nI (ct (fun b => D b = true) 12) := by
  obtain ⟨n1, hn1, hI'⟩ := pD_keep hI htd
  obtain ⟨i1, i2, i3, i0, hb, hW, hK⟩ := hI
  have hG : GI (zD nr r 0) n nr nk td := GI_of (fun k hk => zD_at (by omega)) ⟨i3, i2, i0, ⟨htd, hb.2.1, hb.2.2⟩, hW⟩
  obtain ⟨n', τ', D, c1, c2, c3, c4, c5, c6, c7⟩ := gT_tags (nk := nk) (nr := nr) (td := td) (δ := δ) n (zD nr r 0) 0 n (nI 0) (nI 0) τ (by omega) hG (TG_of (fun k hk => zD_at (by omega)) hT)
  have zz : ∀ k, (k < 221 ∨ 337 ≤ k) → k ≠ 0 → k ≠ 6 → (pD r nr nk n).1 k = (gT nk n (zD nr r 0) 0 n (nI 0) (nI 0)).1 k := by
    intro k hk h0 h6
    unfold pD
    simp only
    rw [zup_ne h0, zD_at (by omega), rK_at (by omega) (by omega), eD_at (by omega) (by omega), zup_ne h6]
  have en : n1 = n' := nIinj (by omega) (by omega) (hI'.2.2.1.symm.trans ((zz 3 (by omega) (by omega) (by omega)).trans c2))
  subst en
  refine ⟨n1, τ', D, hn1, hI', TG_of (fun k hk => zz k (by omega) (by omega) (by omega)) c3, fun b hb => ?_, c5, c6, ?_⟩
  · show bit b (gT nk n (zD nr r 0) 0 n (nI 0) (nI 0)).2.2 ↔ _
    rw [c4 b hb]
    exact ⟨fun q => q.elim (fun q => absurd q (bit_0 b hb)) id, Or.inr⟩
  · rw [zz 4 (by omega) (by omega) (by omega), c7, zD_at (by omega)]
theorem nIa3 (x : Int32) (A B : Nat) : x + nI A + nI B = x + nI (A + B) := by rw [← nI_add]; grind
theorem dO_tags {nr nk : Nat} {δ : Nat → Nat} (d : Nat) : ∀ (r : Nat → Int32) (n td : Nat) (τ : Nat → Nat), td + d = 199 → RI r nr nk n td → TG r n τ δ →
    (∀ b, b < 12 → dO nr nk b d r = -9 ∨ ∃ y, td ≤ y ∧ y < 199 ∧ dO nr nk b d r = nI y ∧ δ b ≤ y ∧ ∃ u, u < n ∧ τ u = b) ∧
    ∀ e mi, e ≤ d → (pN nr nk e r mi).1 4 = r 4 + nI (ct (fun b => ¬ dO nr nk b d r < 0 ∧ dO nr nk b d r < nI (td + e)) 12) := by
  induction d with
  | zero =>
    intro r n td τ htd hI hT
    refine ⟨fun b hb => Or.inl rfl, fun e mi he => ?_⟩
    have e0 : e = 0 := by omega
    subst e0
    rw [ct_no 12 (fun k hk q => q.1 m9neg)]
    show r 4 = r 4 + 0
    rw [Int32.add_zero]
  | succ d ih =>
    intro r n td τ htd hI hT
    have hn := hI.2.2.2.2.1
    have e3 : ixx (r 3) = n := by rw [hI.2.2.1, ixx_nI (by omega)]
    obtain ⟨n', τ', D, c1, c2, c3, c4, c5, c6, c7⟩ := pD_tags hI (by omega) hT
    obtain ⟨j1, j2⟩ := ih (pD r nr nk n).1 n' (td + 1) τ' (by omega) c2 c3
    have hdO : ∀ b, b < 12 → (D b = true → dO nr nk b (d + 1) r = nI td) ∧ (¬ D b = true → dO nr nk b (d + 1) r = dO nr nk b d (pD r nr nk n).1) := by
      intro b hb
      have hbit : ((pD r nr nk n).2.2 >>> (nI b &&& 31)) &&& nI 1 = nI 1 ↔ D b = true := c4 b hb
      have hdef : dO nr nk b (d + 1) r = if ((pD r nr nk (ixx (r 3))).2.2 >>> (nI b &&& 31)) &&& nI 1 = nI 1 then (pD r nr nk (ixx (r 3))).1 0 - nI 1 else dO nr nk b d (pD r nr nk (ixx (r 3))).1 := rfl
      rw [e3] at hdef
      rw [hdef]
      refine ⟨fun q => ?_, fun q => ?_⟩
      · rw [if_pos (hbit.mpr q), c2.2.2.2.1, pk_sub (by omega)]; rfl
      · rw [if_neg (fun w => q (hbit.mp w))]
    have hgone : ∀ b, b < 12 → D b = true → dO nr nk b d (pD r nr nk n).1 = -9 := by
      intro b hb q
      rcases j1 b hb with e | ⟨y, -, -, -, -, u, hu, eu⟩
      · exact e
      · exact absurd q (eu ▸ (c6 u hu).2)
    refine ⟨fun b hb => ?_, fun e mi he => ?_⟩
    · by_cases q : D b = true
      · rw [(hdO b hb).1 q]
        obtain ⟨q1, u, hu, eu⟩ := c5 b hb q
        exact Or.inr ⟨td, Nat.le_refl td, by omega, rfl, q1, u, hu, eu⟩
      · rw [(hdO b hb).2 q]
        rcases j1 b hb with e | ⟨y, y1, y2, y3, y4, u, hu, eu⟩
        · exact Or.inl e
        · obtain ⟨⟨v, hv, ev⟩, -⟩ := c6 u hu
          exact Or.inr ⟨y, by omega, y2, y3, y4, v, hv, ev.trans eu⟩
    · rcases e with _ | e
      · have hz : ct (fun b => ¬ dO nr nk b (d + 1) r < 0 ∧ dO nr nk b (d + 1) r < nI (td + 0)) 12 = 0 := ct_no 12 (fun b hb q => by
          by_cases w : D b = true
          · have q2 := q.2
            rw [(hdO b hb).1 w, ltle, nI_leI (by omega) (by omega)] at q2
            omega
          · rw [(hdO b hb).2 w] at q
            rcases j1 b hb with e | ⟨y, y1, y2, y3, -⟩
            · exact q.1 (by rw [e]; exact m9neg)
            · have q2 := q.2
              rw [y3, ltle, nI_leI (by omega) (by omega)] at q2
              omega)
        rw [hz]
        show r 4 = r 4 + 0
        rw [Int32.add_zero]
      · have hc : ct (fun b => ¬ dO nr nk b (d + 1) r < 0 ∧ dO nr nk b (d + 1) r < nI (td + (e + 1))) 12 = ct (fun b => D b = true) 12 + ct (fun b => ¬ dO nr nk b d (pD r nr nk n).1 < 0 ∧ dO nr nk b d (pD r nr nk n).1 < nI (td + 1 + e)) 12 := by
          refine ct_add 12 (fun b hb => ?_) (fun b hb w => ?_)
          · by_cases w : D b = true
            · rw [(hdO b hb).1 w]
              refine ⟨fun _ => Or.inl w, fun _ => ⟨by rw [nI_nneg (by omega)]; exact id, ?_⟩⟩
              rw [ltle, nI_leI (by omega) (by omega)]; omega
            · rw [(hdO b hb).2 w, show td + (e + 1) = td + 1 + e by omega]
              exact ⟨Or.inr, fun q => q.elim (fun q => absurd q w) id⟩
          · rw [hgone b hb w]
            exact fun q => q.1 m9neg
        have hp : (pN nr nk (e + 1) r mi) = pN nr nk e (pD r nr nk n).1 (mi + (pD r nr nk n).2.1) := by
          show pN nr nk e (pD r nr nk (ixx (r 3))).1 (mi + (pD r nr nk (ixx (r 3))).2.1) = _
          rw [e3]
        rw [hp, j2 e _ (by omega), c7, hc]
        exact nIa3 _ _ _
