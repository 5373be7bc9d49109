/-! Both, side by side. -/
def IVF (h : zH) (x : Nat) (F : Nat → Nat → Int32) (s L : Nat) : Prop := CI h x F s L ∧ MS h (x + 348) ∧ MI F s L ∧ ∀ j, j < 7 → zi h (x + 348 + j) = F j
def IV (h : zH) (x : Nat) : Prop := ∃ F s L, IVF h x F s L
theorem MST_eq {h : zH} {m : Nat} {F : Nat → Nat → Int32} (hF : ∀ j, j < 7 → zi h (m + j) = F j) : MST h m F = h := by
  have : zi (MST h m F) = zi h := by
    funext a
    by_cases hb : m ≤ a ∧ a < m + 7
    · obtain ⟨i, rfl⟩ : ∃ i, a = m + i := ⟨a - m, by omega⟩
      rw [zi_MST _ _ (by omega), hF i (by omega)]
    · rw [zi_MSTN _ _ (by omega)]
  show (_, _, _, zi (MST h m F), _) = _
  rw [this]; rfl
theorem IVF_out {h h' : zH} {x s L : Nat} {F : Nat → Nat → Int32} (hV : IVF h x F s L) (hO : OUT h h' x (x + 348)) : MS h' (x + 348) ∧ MST h' (x + 348) F = h' := by
  obtain ⟨hC, ⟨a1, ⟨a2, a3, a4, a5, a6, a7⟩, ⟨b1, b2, b3, b4, b5, b6⟩, ⟨c1, c2, c3, c4, c5, c6⟩⟩, -, hF⟩ := hV
  have hz := hC.1.2.2.2.2.2.2
  have m : ∀ j, j < 7 → SM h h' (x + 348 + j) := fun j hj => hO.2 _ (by omega) (by omega)
  obtain ⟨p1, p2, p3, p4⟩ := m 0 (by omega)
  have p1 : zk h' (x + 348) = zk h (x + 348) := p1
  have p4 : zr h' (x + 348) = zr h (x + 348) := p4
  refine ⟨⟨p1.trans a1, by rw [p4]; exact ⟨a2, a3, a4, a5, a6, a7⟩, ⟨(m 1 (by omega)).1.trans b1, (m 2 (by omega)).1.trans b2, (m 3 (by omega)).1.trans b3, (m 4 (by omega)).1.trans b4, (m 5 (by omega)).1.trans b5, (m 6 (by omega)).1.trans b6⟩, ⟨(m 1 (by omega)).2.1.trans c1, (m 2 (by omega)).2.1.trans c2, (m 3 (by omega)).2.1.trans c3, (m 4 (by omega)).2.1.trans c4, (m 5 (by omega)).2.1.trans c5, (m 6 (by omega)).2.1.trans c6⟩⟩, MST_eq (fun j hj => (m j hj).2.2.1.trans (hF j hj))⟩
theorem IV_of {h h' : zH} {x s L s' L' : Nat} {F F' : Nat → Nat → Int32} {r sv tx : Nat → Int32} (hV : IVF h x F s L) (hO : OUT h h' x (x + 348)) (hC : CI' h' x r sv tx s' L') (f1 : F' 1 = r) (f4 : F' 4 = sv) (f5 : F' 5 = tx) (f00 : F' 0 0 = nI 0) (f05 : F' 0 5 = nI s') (f07 : F' 0 7 = nI L') (hs : s' ≤ 5) : IV (MST h' (x + 348) F') x := by
  obtain ⟨hX, ⟨o, hH⟩, hT⟩ := hC
  have hz := hX.2.2.2.2.2.2
  have hO' : OUT h' (MST h' (x + 348) F') (x + 348) (x + 348 + 7) := ⟨Nat.le_refl _, fun c _ hc => ⟨rfl, rfl, zi_MSTN h' F' hc, rfl⟩⟩
  obtain ⟨-, -, -, h1, h2, h3, -⟩ := id hX
  have hX' : XS (MST h' (x + 348) F') x := XS_of hX hO'.1 (fun c hc => ⟨rfl, rfl, rfl⟩) (SP_tr h1 (OUT_same hO' (by omega) (by omega))) (fun i hi => SP_tr (h2 i hi) (OUT_same hO' (by omega) (by omega))) (WP_tr h3 (OUT_same hO' (by omega) (by omega)))
  have hH' := HI_out hX hH hO' (by omega) (by omega)
  refine ⟨F', s', L', ⟨hX', ⟨o, by rw [f1, f4]; exact hH'⟩, ?_⟩, (IVF_out hV hO).1, ⟨f00, f05, hs, f07, hT.2.1⟩, fun j hj => zi_MST h' F' hj⟩
  unfold TX
  rw [zi_MSTN _ _ (by omega), zi_MSTN _ _ (by omega), f5]
  exact hT
theorem law_A {E : zE} {x s L : Nat} {h : zH} {F : Nat → Nat → Int32} {o : Int32 × Option (Nat → Int32)} {M9 : zM} {av : List zV} {K : zH → Prop} {K' : Int32 → Int32 → zH → Prop} (hV : IVF h x F s L)
    (hr : ∀ (h1 : zH) (Qr : Int32 → zH → Prop), MS h1 (x + 348) → (∀ F', EFO F F' s o.2 → Qr o.1 (MST h1 (x + 348) F')) → zMi E M9 av (MST h1 (x + 348) F) Qr) (hK : ∀ h', IV h' x → K h') : UO (fun r h => zk h (x + 348) = 10 ∧ zMi E M9 av h (fun r' h => (r = r' → K h) ∧ (¬ r = r' → K' r r' h))) h x F s L o := by
  obtain ⟨hz, i5, hs, i7, hL⟩ := hV.2.2.1
  rcases o with ⟨a, _ | r'⟩
  · intro h' hO hC
    obtain ⟨hm, e⟩ := IVF_out hV hO
    refine ⟨hm.1, ?_⟩
    have t := hr h' (fun r' h => (a = r' → K h) ∧ (¬ a = r' → K' a r' h)) hm (fun F' hE => ?_)
    · rw [e] at t; exact t
    · obtain ⟨e1, e2, e3, e4, e5, e6⟩ := hE
      exact ⟨fun _ => hK _ (IV_of hV hO hC e1 e2 e6 e4 (e3.trans i5) (e5.trans i7) hs), fun q => absurd rfl q⟩
  · intro h' hO hC
    obtain ⟨hm, e⟩ := IVF_out hV hO
    refine ⟨hm.1, ?_⟩
    have t := hr h' (fun r' h => (a = r' → K h) ∧ (¬ a = r' → K' a r' h)) hm (fun F' hE => ?_)
    · rw [e] at t; exact t
    · obtain ⟨e1, e2, e3, e4, e5, e6⟩ := hE
      exact ⟨fun _ => hK _ (IV_of hV hO hC e1 e2 e6 e4 e3 (e5.trans i7) (by unfold svN; split <;> omega)), fun q => absurd rfl q⟩
theorem law_Q {E : zE} {x s L : Nat} {h : zH} {F : Nat → Nat → Int32} {v : Int32} {M9 : zM} {av : List zV} {K : zH → Prop} {K' : Int32 → zH → Prop} (hV : IVF h x F s L)
    (hr : ∀ (Qr : Int32 → zH → Prop), Qr v (MST h (x + 348) F) → zMi E M9 av (MST h (x + 348) F) Qr) (hK : ∀ h', IV h' x → K h') : zk h (x + 348) = 10 ∧ zMi E M9 av h (fun r' h => (v = r' → K h) ∧ (¬ v = r' → K' r' h)) := by
  have e : MST h (x + 348) F = h := MST_eq hV.2.2.2
  refine ⟨hV.2.1.1, ?_⟩
  have t := hr (fun r' h => (v = r' → K h) ∧ (¬ v = r' → K' r' h)) (by rw [e]; exact ⟨fun _ => hK _ ⟨F, s, L, hV⟩, fun q => absurd rfl q⟩)
  rw [e] at t
  exact t
theorem law_U {E : zE} {x s L : Nat} {h : zH} {F : Nat → Nat → Int32} {M9 : zM} {av : List zV} {K : zH → Prop} {K' : Int32 → Int32 → zH → Prop} (hV : IVF h x F s L) (hP : PR (F 5) L (L + 1) 0 (F 1)) (hM9 : M9 = mX9_run) (hav : av = [.inr (x + 348)]) (hK : ∀ h', IV h' x → K h') :
    UR (fun r h => zk h (x + 348) = 10 ∧ zMi E M9 av h (fun r' h => (r = r' → K h) ∧ (¬ r = r' → K' r r' h))) h x F s L (pg (F 5) L (L + 1) 0 0 (F 1)) := by
  obtain ⟨hz, i5, hs, i7, hL⟩ := hV.2.2.1
  have hnz : ∀ k, k < L → ¬ F 5 k = nI 0 := fun k hk e => by
    have t := (hV.1.2.2.2.2 k hk).2.1
    rw [e] at t
    exact absurd t (by decide)
  have hr : ∀ (h1 : zH) (Qr : Int32 → zH → Prop), MS h1 (x + 348) → (∀ F', RO F F' s (pg (F 5) L (L + 1) 0 0 (F 1)).2 → Qr (pg (F 5) L (L + 1) 0 0 (F 1)).1 (MST h1 (x + 348) F')) → zMi E M9 av (MST h1 (x + 348) F) Qr := by
    rw [hM9, hav]
    exact fun h1 Qr hm hq => p_run hm hV.2.2.1 hnz hP hq
  revert hr
  rcases pg (F 5) L (L + 1) 0 0 (F 1) with ⟨a, _ | r'⟩
  · intro hr h' hO hC
    obtain ⟨hm, e⟩ := IVF_out hV hO
    refine ⟨hm.1, ?_⟩
    have t := hr h' (fun r' h => (a = r' → K h) ∧ (¬ a = r' → K' a r' h)) hm (fun F' hE => ?_)
    · rw [e] at t; exact t
    · obtain ⟨e1, e2, e3, e4, e5, e6⟩ := hE
      exact ⟨fun _ => hK _ (IV_of hV hO hC e1 e2 e6 e4 (e3.trans i5) (e5.trans i7) hs), fun q => absurd rfl q⟩
  · intro hr h' hO hC
    obtain ⟨hm, e⟩ := IVF_out hV hO
    refine ⟨hm.1, ?_⟩
    have t := hr h' (fun r' h => (a = r' → K h) ∧ (¬ a = r' → K' a r' h)) hm (fun F' hE => ?_)
    · rw [e] at t; exact t
    · obtain ⟨e1, e2, e3, e4, e5, e6⟩ := hE
      exact ⟨fun _ => hK _ (IV_of hV hO hC e1 e2 e6 e4 e3 e5 (by unfold svN; split <;> omega)), fun q => absurd rfl q⟩
theorem law_und {E : zE} {x s L : Nat} {h : zH} {F : Nat → Nat → Int32} {K : zH → Prop} {K' : Int32 → Int32 → zH → Prop} (hV : IVF h x F s L) (hK : ∀ h', IV h' x → K h') :
    zMi E mX8_undo [.inr x] h (fun r h => zk h (x + 348) = 10 ∧ zMi E mX9_undo [.inr (x + 348)] h (fun r' h => (r = r' → K h) ∧ (¬ r = r' → K' r r' h))) := by
  obtain ⟨hz, i5, hs, i7, hL⟩ := hV.2.2.1
  refine pb_undo hV.1 (fun h0 => ?_) (fun s' hs' h' hO hC => ?_)
  · refine law_Q hV (fun Qr hq => p_undo hV.2.1 hV.2.2.1 (fun _ => hq) (fun s' e => by omega)) hK
  · obtain ⟨hm, e⟩ := IVF_out hV hO
    refine ⟨hm.1, ?_⟩
    have t := p_undo (E := E) (Q := fun r' h => (nI s' = r' → K h) ∧ (¬ nI s' = r' → K' (nI s') r' h)) hm hV.2.2.1 (fun h0 => by omega) (fun s'' e' => ?_)
    · rw [e] at t; exact t
    · obtain rfl : s'' = s' := by omega
      refine ⟨fun _ => hK _ (IV_of hV hO hC ?_ ?_ ?_ ?_ ?_ ?_ (by omega)), fun q => absurd rfl q⟩ <;> simp (disch := omega) only [zup_eq, zup_ne]
      · exact hz
      · exact i7
theorem law_clr {E : zE} {x s L : Nat} {h : zH} {F : Nat → Nat → Int32} {K : zH → Prop} {K' : Int32 → Int32 → zH → Prop} (hV : IVF h x F s L) (hK : ∀ h', IV h' x → K h') :
    zMi E mX8_clearText [.inr x] h (fun r h => zk h (x + 348) = 10 ∧ zMi E mX9_clearText [.inr (x + 348)] h (fun r' h => (r = r' → K h) ∧ (¬ r = r' → K' r r' h))) := by
  obtain ⟨hz, i5, hs, i7, hL⟩ := hV.2.2.1
  refine pb_clearText hV.1 (fun h' hO hC => ?_)
  obtain ⟨hm, e⟩ := IVF_out hV hO
  refine ⟨hm.1, ?_⟩
  have t := p_clearText (E := E) (Q := fun r' h => (nI L = r' → K h) ∧ (¬ nI L = r' → K' (nI L) r' h)) hm hV.2.2.1 ?_
  · rw [e] at t; exact t
  · refine ⟨fun _ => hK _ (IV_of hV hO hC ?_ ?_ ?_ ?_ ?_ ?_ hs), fun q => absurd rfl q⟩ <;> simp (disch := omega) only [zup_eq, zup_ne]
    · exact hz
    · exact i5
theorem law_app {E : zE} {x s L : Nat} {a : Int32} {h : zH} {F : Nat → Nat → Int32} {K : zH → Prop} {K' : Int32 → Int32 → zH → Prop} (hV : IVF h x F s L) (hK : ∀ h', IV h' x → K h') :
    zMi E mX8_append [.inr x, .inl a] h (fun r h => zk h (x + 348) = 10 ∧ zMi E mX9_append [.inr (x + 348), .inl a] h (fun r' h => (r = r' → K h) ∧ (¬ r = r' → K' r r' h))) := by
  obtain ⟨hz, i5, hs, i7, hL⟩ := hV.2.2.1
  refine pb_append hV.1 (fun h0 => ?_) (fun h0 h1 => ?_) (fun h0 h1 h' hO hC => ?_)
  · exact law_Q hV (fun Qr hq => p_append hV.2.1 hV.2.2.1 (fun _ => hq) (fun q => absurd q h0) (fun q => absurd q h0)) hK
  · exact law_Q hV (fun Qr hq => p_append hV.2.1 hV.2.2.1 (fun q => absurd h0 q) (fun _ _ => hq) (fun _ q => by omega)) hK
  · obtain ⟨hm, e⟩ := IVF_out hV hO
    refine ⟨hm.1, ?_⟩
    have t := p_append (E := E) (x := a) (Q := fun r' h => (nI (L + 1) = r' → K h) ∧ (¬ nI (L + 1) = r' → K' (nI (L + 1)) r' h)) hm hV.2.2.1 (fun q => absurd h0 q) (fun _ q => by omega) (fun _ _ => ?_)
    · rw [e] at t; exact t
    · refine ⟨fun _ => hK _ (IV_of hV hO hC ?_ ?_ ?_ ?_ ?_ ?_ hs), fun q => absurd rfl q⟩ <;> simp (disch := omega) only [zup_eq, zup_ne]
      · exact hz
      · exact i5
