/-! The law: one state, and how calls change it. -/
def qCM (h : zH) (cp : Nat) (came : Nat → Int32) : Prop := zk h cp = 20 ∧ zn h cp = 8 ∧ ∀ k, k < 8 → zi h cp k = came k
def qLS (h : zH) (x cp : Nat) (r sv tx : Nat → Int32) (s L nr nk n td : Nat) (came : Nat → Int32) : Prop := ST h x r sv tx s L nr nk n td ∧ IV r nr nk n td came ∧ NSs r sv s ∧ qCM h cp came ∧ x + 348 ≤ cp ∧ cp < zsz h
theorem ST.s5 {h : zH} {x : Nat} {r sv tx : Nat → Int32} {s L nr nk n td : Nat} (hS : ST h x r sv tx s L nr nk n td) : s ≤ 5 := by
  obtain ⟨o, hH⟩ := hS.1.2.1
  exact hH.2.2.2.1
theorem qCM_out {h h' : zH} {x cp : Nat} {came : Nat → Int32} (hC : qCM h cp came) (h1 : x + 348 ≤ cp) (h2 : cp < zsz h) (hO : OUT h h' x (x + 348)) : qCM h' cp came := by
  obtain ⟨e1, e2, e3, -⟩ := hO.2 cp h2 (by omega)
  exact ⟨e1.trans hC.1, e2.trans hC.2.1, fun k hk => by rw [e3]; exact hC.2.2 k hk⟩
theorem qLS_out {h h' : zH} {x cp : Nat} {r sv tx came : Nat → Int32} {s L nr nk n td : Nat} (hL : qLS h x cp r sv tx s L nr nk n td came) (hO : OUT h h' x (x + 348)) (hC : CI' h' x r sv tx s L) : qLS h' x cp r sv tx s L nr nk n td came := by
  obtain ⟨hS, hV, hN, hM, h1, h2⟩ := hL
  exact ⟨hS.again hC, hV, hN, qCM_out hM h1 h2 hO, h1, Nat.lt_of_lt_of_le h2 hO.1⟩
section Ls
variable {E : zE} {Q : Int32 → zH → Prop} {h : zH} {x cp : Nat} {r sv tx came : Nat → Int32} {s L nr nk n td : Nat} {a b c d e : Int32}
theorem f_setTide (hL : qLS h x cp r sv tx s L nr nk n td came) (he : oTide r a b = (e, none)) (hq : ∀ h', qLS h' x cp r sv tx s L nr nk n td came → Q e h') : zMi E mX8_setTide [.inr x, .inl a, .inl b] h Q :=
  pb_setTide (F := FF r sv tx) hL.1.1 hL.1.2 (by rw [show oTide (FF r sv tx 1) a b = (e, none) from he]; exact fun h' hO hC => hq h' (qLS_out hL hO hC))
theorem f_addRock (hL : qLS h x cp r sv tx s L nr nk n td came) (he : oRock r nr a b c = (e, none)) (hq : ∀ h', qLS h' x cp r sv tx s L nr nk n td came → Q e h') : zMi E mX8_addRock [.inr x, .inl a, .inl b, .inl c] h Q :=
  pb_addRock (F := FF r sv tx) hL.1.1 hL.1.2 (by rw [show oRock (FF r sv tx 1) nr a b c = (e, none) from he]; exact fun h' hO hC => hq h' (qLS_out hL hO hC))
theorem f_come (hL : qLS h x cp r sv tx s L nr nk n td came) (he : oCome r nk a = (e, none)) (hq : ∀ h', qLS h' x cp r sv tx s L nr nk n td came → Q e h') : zMi E mX8_come [.inr x, .inl a] h Q :=
  pb_come (F := FF r sv tx) hL.1.1 hL.1.2 (by rw [show oCome (FF r sv tx 1) nk a = (e, none) from he]; exact fun h' hO hC => hq h' (qLS_out hL hO hC))
theorem f_change (hL : qLS h x cp r sv tx s L nr nk n td came) (he : oChg r nr nk n td a b c d = (e, none)) (hq : ∀ h', qLS h' x cp r sv tx s L nr nk n td came → Q e h') : zMi E mX8_change [.inr x, .inl a, .inl b, .inl c, .inl d] h Q :=
  pb_change (F := FF r sv tx) hL.1.1 hL.1.2 (by rw [show oChg (FF r sv tx 1) nr nk n td a b c d = (e, none) from he]; exact fun h' hO hC => hq h' (qLS_out hL hO hC))
theorem f_pass (hL : qLS h x cp r sv tx s L nr nk n td came) (he : oPass r nr nk td a = (e, none)) (hq : ∀ h', qLS h' x cp r sv tx s L nr nk n td came → Q e h') : zMi E mX8_pass [.inr x, .inl a] h Q :=
  pb_pass (F := FF r sv tx) hL.1.1 hL.1.2 (by rw [show oPass (FF r sv tx 1) nr nk td a = (e, none) from he]; exact fun h' hO hC => hq h' (qLS_out hL hO hC))
theorem f_restore (hL : qLS h x cp r sv tx s L nr nk n td came) (he : oRes r a = (e, none)) (hq : ∀ h', qLS h' x cp r sv tx s L nr nk n td came → Q e h') : zMi E mX8_restore [.inr x, .inl a] h Q :=
  pb_restore (F := FF r sv tx) hL.1.1 hL.1.2 (by rw [show oRes (FF r sv tx 1) a = (e, none) from he]; exact fun h' hO hC => hq h' (qLS_out hL hO hC))
theorem f_later (hL : qLS h x cp r sv tx s L nr nk n td came) (he : qLat r w0 nr nk n td a b c = e) (hq : ∀ h', qLS h' x cp r sv tx s L nr nk n td came → Q e h') : zMi E mX8_later [.inr x, .inl a, .inl b, .inl c] h Q :=
  s_later hL.1 (fun h' hO hS => by rw [he]; exact hq h' (qLS_out hL hO hS.1))
/-- behind a successful action -/
def qGOT (h' : zH) (x cp : Nat) (r r' sv tx : Nat → Int32) (s L nr nk td : Nat) (came came' : Nat → Int32) (δ : Int32) : Prop := ∃ nr' nk' n' td', ST h' x r' (svF (FF r sv tx) s) tx (svN s) L nr' nk' n' td' ∧ IV r' nr' nk' n' td' came' ∧ NSs r' (svF (FF r sv tx) s) (svN s) ∧ qCM h' cp came ∧ x + 348 ≤ cp ∧ cp < zsz h' ∧ AC r r' δ ∧ nr ≤ nr' ∧ nk ≤ nk' ∧ td' ≤ td + 4
theorem act_qLS (hL : qLS h x cp r sv tx s L nr nk n td came) {o : Int32 × Option (Nat → Int32)} {came' : Nat → Int32} {δ : Int32} (hN : NX0 r o nr nk n td came came' δ) (hT : TL r o)
    (hneg : o.1 < 0 → ∀ h', qLS h' x cp r sv tx s L nr nk n td came → Q o.1 h')
    (hpos : ∀ r', o.2 = some r' → 0 ≤ o.1 → (∀ k, 433 ≤ k → r' k = r k) → ∀ h', qGOT h' x cp r r' sv tx s L nr nk td came came' δ → Q o.1 h') : UO Q h x (FF r sv tx) s L o := by
  obtain ⟨a, r2⟩ := o
  cases r2 with
  | none => exact fun h' hO hC => hneg (hN.1 rfl) h' (qLS_out hL hO hC)
  | some r' =>
    intro h' hO hC
    obtain ⟨h0, nr', nk', n', td', hb, e1, e2, e3, e0, hV, hA, l1, l2, l3, l4⟩ := hN.2 r' rfl
    have ht := hT r' rfl
    obtain ⟨hS, -, hNS, hM, c1, c2⟩ := hL
    exact hpos r' rfl h0 ht h' ⟨nr', nk', n', td', ST_of hC hb e1 e2 e3 e0, hV, NS_act hNS hS.s5 ht, qCM_out hM c1 c2 hO, c1, Nat.lt_of_lt_of_le c2 hO.1, hA, l1, l2, l4⟩
theorem a_act {v : Int32} (hL : qLS h x cp r sv tx s L nr nk n td came) (hnr : 0 < nr) (hnk : 0 < nk)
    (hneg : (oAct r nr nk n td v).1 < 0 → ∀ h', qLS h' x cp r sv tx s L nr nk n td came → Q (oAct r nr nk n td v).1 h')
    (hpos : ∀ r', (oAct r nr nk n td v).2 = some r' → 0 ≤ (oAct r nr nk n td v).1 → (∀ k, 433 ≤ k → r' k = r k) → ∀ h', qGOT h' x cp r r' sv tx s L nr nk td came (cmA came nk td v) (dlA v) → Q (oAct r nr nk n td v).1 h') : zMi E mL_act [.inr x, .inl v] h Q :=
  c_act hL.1 hnr hnk (act_qLS hL (nxAct hL.1.RI hL.1.XI hL.2.1) (tlAct hL.1.RI) hneg hpos)
theorem a_undo {h' : zH} {r' came' : Nat → Int32} {δ : Int32} (hL : qLS h x cp r sv tx s L nr nk n td came) (ht : ∀ k, 433 ≤ k → r' k = r k) (hG : qGOT h' x cp r r' sv tx s L nr nk td came came' δ) (hq : ∀ h2 sv2 s2, qLS h2 x cp r sv2 tx s2 L nr nk n td came → ∀ a, Q a h2) : zMi E mX8_undo [.inr x] h' Q := by
  obtain ⟨nr', nk', n', td', hS', -, hN', hM, c1, c2, -⟩ := hG
  have hs5 := hL.1.s5
  refine pb_undo (F := FF r' (svF (FF r sv tx) s) tx) hS'.1 (fun e => ?_) (fun s' e h2 hO hC => ?_)
  · have := svN_c s
    omega
  · have hr : va_cpy (svF (FF r sv tx) s) r' (1301 * s') 0 1301 = r := undo_r hs5 ht e
    have hC : CI' h2 x (va_cpy (svF (FF r sv tx) s) r' (1301 * s') 0 1301) (svF (FF r sv tx) s) tx s' L := hC
    rw [hr] at hC
    refine hq h2 (svF (FF r sv tx) s) s' ⟨hL.1.again hC, hL.2.1, ⟨hL.2.2.1.1, fun i hi => hN'.2 i (by omega)⟩, qCM_out hM c1 c2 hO, c1, Nat.lt_of_lt_of_le c2 hO.1⟩ _
end Ls
/-- at the start -/
def qL0 (h : zH) (x cp nr nk : Nat) : Prop := ∃ r sv tx s L n, qLS h x cp r sv tx s L nr nk n 0 (fun _ => nI 0) ∧ r 3 + r 4 + r 5 = 0
theorem qL0_got {h' : zH} {x cp nr nk nr' nk' s L : Nat} {r r' sv tx : Nat → Int32} (hb : nr' ≤ 3 ∧ nk' ≤ 8) (hG : qGOT h' x cp r r' sv tx s L nr nk 0 (fun _ => nI 0) (fun _ => nI 0) 0) (e1 : r' 1 = nI nr') (e2 : r' 2 = nI nk') (e0 : r' 0 = nI 0) (h3 : r 3 + r 4 + r 5 = 0) : qL0 h' x cp nr' nk' := by
  obtain ⟨nr2, nk2, n', td', hS', hV', hN', hM, c1, c2, hA, -⟩ := hG
  have hI := hS'.RI
  obtain ⟨rfl, rfl, -, rfl⟩ := RI_eq hI (a' := nr') (b' := nk') (c' := n') (d' := 0) ⟨hb.1, hb.2, (RI_bd hI).2.2.1, by omega⟩ e1 e2 hI.2.2.1 e0
  refine ⟨r', _, tx, _, L, n', ⟨hS', hV', hN', hM, c1, c2⟩, ?_⟩
  unfold AC at hA
  rw [hA, h3]; rfl
theorem st_rock {E : zE} {Q : Int32 → zH → Prop} {h : zH} {x cp nr nk : Nat} {a b c : Int32} (hL : qL0 h x cp nr nk) (ha : inN a 100 = true) (hb : inN b 10 = true) (hc : nI 1 ≤ c ∧ c ≤ nI 3) (hnr : nr < 3) (hq : ∀ h' q, qL0 h' x cp (nr + 1) nk → Q q h') : zMi E mX8_addRock [.inr x, .inl a, .inl b, .inl c] h Q := by
  obtain ⟨r, sv, tx, s, L, n, hL, h3⟩ := hL
  have hI := hL.1.RI
  have hn := hI.2.2.2.2.1
  have e : rkC nr a b c = nI 0 := by unfold rkC; rw [if_pos ⟨ha, hb, hc⟩, if_neg (by omega)]
  have eo : oRock r nr a b c = (nI nr, some (rkN r nr a b c)) := by unfold oRock; rw [e, if_pos (by decide)]
  have hN := nxRock hI hL.2.1 (a := a) (b := b) (c := c)
  have hT := tlRock (r := r) (nr := nr) (x := a) (y := b) (z := c) (by omega)
  refine pb_addRock (F := FF r sv tx) hL.1.1 hL.1.2 (act_qLS hL hN hT (fun q => ?_) (fun r' er _ _ h' hG => ?_))
  · have q : (oRock r nr a b c).1 < 0 := q
    rw [eo] at q
    have q : nI nr < 0 := q
    rw [nI_nneg (by omega)] at q
    exact q.elim
  · have er : (oRock r nr a b c).2 = some r' := er
    rw [eo] at er
    cases er
    refine hq h' _ (qL0_got ⟨by omega, by omega⟩ hG ?_ ?_ ?_ h3)
    · unfold rkN; exact zup_eq rfl
    · unfold rkN; rw [zup_ne (by omega), zup_ne (by omega), zup_ne (by omega), zup_ne (by omega), clr_at (by omega)]; exact hI.2.1
    · unfold rkN; rw [zup_ne (by omega), zup_ne (by omega), zup_ne (by omega), zup_ne (by omega), clr_at (by omega)]; exact hI.2.2.2.1
theorem st_come {E : zE} {Q : Int32 → zH → Prop} {h : zH} {x cp nr nk : Nat} {a : Int32} (hL : qL0 h x cp nr nk) (ha : inN a 3 = true) (hnk : nk < 8) (hq : ∀ h' q, qL0 h' x cp nr (nk + 1) → Q q h') : zMi E mX8_come [.inr x, .inl a] h Q := by
  obtain ⟨r, sv, tx, s, L, n, hL, h3⟩ := hL
  have hI := hL.1.RI
  have hn := hI.2.2.2.2.1
  have e : cmC nk a = nI 0 := by unfold cmC; rw [if_pos ha, if_neg (by omega)]
  have eo : oCome r nk a = (nI nk, some (kpN r nk a)) := by unfold oCome; rw [e, if_pos (by decide)]
  have hN := nxCome hI hL.2.1 (a := a)
  rw [show zup (fun _ => nI 0) nk (nI 0) = (fun _ => nI 0) from zup_self (fun _ => nI 0) nk] at hN
  have hT := tlCome (r := r) (nk := nk) (x := a) (by omega)
  refine pb_come (F := FF r sv tx) hL.1.1 hL.1.2 (act_qLS hL hN hT (fun q => ?_) (fun r' er _ _ h' hG => ?_))
  · have q : (oCome r nk a).1 < 0 := q
    rw [eo] at q
    have q : nI nk < 0 := q
    rw [nI_nneg (by omega)] at q
    exact q.elim
  · have er : (oCome r nk a).2 = some r' := er
    rw [eo] at er
    cases er
    refine hq h' _ (qL0_got ⟨by omega, by omega⟩ hG ?_ ?_ ?_ h3)
    · unfold kpN; rw [zup_ne (by omega), zup_ne (by omega), clr_at (by omega), zup_ne (by omega)]; exact hI.1
    · unfold kpN; rw [zup_ne (by omega), zup_ne (by omega), clr_at (by omega), zup_eq rfl]
    · unfold kpN; rw [zup_ne (by omega), zup_ne (by omega), clr_at (by omega), zup_ne (by omega)]; exact hI.2.2.2.1
