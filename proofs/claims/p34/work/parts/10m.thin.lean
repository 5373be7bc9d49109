/-! The class: on which day a turn is done. -/
def thin (k : Nat) : Prop := k < 4 ∨ (7 ≤ k ∧ k < 221) ∨ (∃ i f, i < 3 ∧ f < 3 ∧ k = 221 + 20 * i + f) ∨ (∃ j, j < 8 ∧ k = 281 + 7 * j + 1) ∨ 337 ≤ k
def TH (a b : Nat → Int32) : Prop := ∀ k, thin k → a k = b k
theorem TH_up {a b : Nat → Int32} {k : Nat} {x y : Int32} (h : TH a b) (hx : x = y) : TH (zup a k x) (zup b k y) := by
  intro j hj
  by_cases e : j = k
  · rw [zup_eq e, zup_eq e]; exact hx
  · rw [zup_ne e, zup_ne e]; exact h j hj
theorem TH_ul {a b : Nat → Int32} {k : Nat} {x : Int32} (h : TH a b) (hk : ¬ thin k) : TH (zup a k x) b := by
  intro j hj
  have e : j ≠ k := fun e => hk (by rw [← e]; exact hj)
  rw [zup_ne e]; exact h j hj
theorem TH_ur {a b : Nat → Int32} {k : Nat} {x : Int32} (h : TH a b) (hk : ¬ thin k) : TH a (zup b k x) := by
  intro j hj
  have e : j ≠ k := fun e => hk (by rw [← e]; exact hj)
  rw [zup_ne e]; exact h j hj
theorem nth_st {i s f : Nat} (hi : i < 3) (hs : s < 3) (hf : f < 5) : ¬ thin (221 + 20 * i + 5 + 5 * s + f) := by
  rintro (h | h | ⟨i', f', h1, h2, h3⟩ | ⟨j, h1, h2⟩ | h) <;> omega
theorem nth_d {i : Nat} (hi : i < 3) : ¬ thin (221 + 20 * i + 4) := by
  rintro (h | h | ⟨i', f', h1, h2, h3⟩ | ⟨j, h1, h2⟩ | h) <;> omega
theorem nth_3 {i : Nat} (hi : i < 3) : ¬ thin (221 + 20 * i + 3) := by
  rintro (h | h | ⟨i', f', h1, h2, h3⟩ | ⟨j, h1, h2⟩ | h) <;> omega
theorem nth_c {k : Nat} (hk : 4 ≤ k ∧ k < 7) : ¬ thin k := by
  rintro (h | h | ⟨i', f', h1, h2, h3⟩ | ⟨j, h1, h2⟩ | h) <;> omega
theorem th_t (k : Nat) (hk : 337 ≤ k) : thin k := Or.inr (Or.inr (Or.inr (Or.inr hk)))
theorem th_k {j : Nat} (hj : j < 8) : thin (281 + 7 * j + 1) := Or.inr (Or.inr (Or.inr (Or.inl ⟨j, hj, rfl⟩)))
theorem th_r {i f : Nat} (hi : i < 3) (hf : f < 3) : thin (221 + 20 * i + f) := Or.inr (Or.inr (Or.inl ⟨i, f, hi, hf, rfl⟩))
theorem th_s {k : Nat} (h : 7 ≤ k ∧ k < 221) : thin k := Or.inr (Or.inl h)
theorem th_0 {k : Nat} (h : k < 4) : thin k := Or.inl h
theorem TH_rm {a b : Nat → Int32} {t n : Nat} (h : TH a b) : TH (rmT a t n) (rmT b t n) := by
  intro j hj
  unfold rmT
  split
  · rfl
  · split
    · exact h _ (th_t _ (by omega))
    · exact h j hj
theorem TH_dT {a b : Nat → Int32} {t nr nk : Nat} (h : TH a b) (hr : nr ≤ 3) (hk : nk ≤ 8) (hT : TW a t nr nk) : TH (dT a t) (dT b t) := by
  obtain ⟨h1, -, hc, hg, hkd⟩ := hT
  have i1 := ixx_lt h1 (by omega)
  have e0 := h (337 + 8 * t + 0) (th_t _ (by omega))
  have e1 := h (337 + 8 * t + 1) (th_t _ (by omega))
  have e3 := h (337 + 8 * t + 3) (th_t _ (by omega))
  have e4 := h (337 + 8 * t + 4) (th_t _ (by omega))
  have e5 := h (337 + 8 * t + 5) (th_t _ (by omega))
  unfold dT
  rw [← e0, ← e1, ← e3, ← e4, ← e5]
  split
  · rename_i h0
    rcases hkd with ⟨-, -, -, h5⟩ | ⟨h0', -⟩
    · have i2 := ixx_lt h5 (by omega)
      exact TH_ur (TH_ur (TH_ul (TH_ul h (nth_st (by omega) i2 (by omega))) (nth_st (by omega) i2 (by omega))) (nth_st (by omega) i2 (by omega))) (nth_st (by omega) i2 (by omega))
    · exact absurd h0 h0'
  · split
    · split
      · exact h
      · exact TH_up h rfl
    · split
      · exact TH_up h rfl
      · exact TH_up (TH_up h rfl) rfl
theorem TH_cL {a b : Nat → Int32} {i d : Nat} (h : TH a b) (hi : i < 3) (hd : d < 200) : cL a i d = cL b i d := by
  unfold cL
  rw [h _ (th_r hi (by omega)), h _ (th_r (f := 1) hi (by omega)), h _ (th_s (k := 7 + d % 14) (by omega)), h _ (th_s (k := 21 + d) (by omega))]
theorem TH_kO {a b : Nat → Int32} {x : Int32} {n : Nat} (h : TH a b) (hn : n ≤ 8) : kO a x n = kO b x n := kO_congr fun k hk => h _ (th_k (by omega))
theorem TH_cbd {a b : Nat → Int32} {t nr nk : Nat} (h : TH a b) (hr : nr ≤ 3) (hk : nk ≤ 8) (hT : TW a t nr nk) : cbd a t nk = cbd b t nk := by
  obtain ⟨h1, -, hc, hg, hkd⟩ := hT
  have i1 := ixx_lt h1 (by omega)
  have e1 := h (337 + 8 * t + 1) (th_t _ (by omega))
  have e3 := h (337 + 8 * t + 3) (th_t _ (by omega))
  have e4 := h (337 + 8 * t + 4) (th_t _ (by omega))
  have ep := h _ (th_r (f := 2) (show ixx (a (337 + 8 * t + 1)) < 3 by omega) (by omega))
  unfold cbd
  rw [← e1, ← e3, ← e4, ← ep, TH_kO h hk]
  refine congr (congrArg And ?_) ?_
  · rcases hc with hc | hc
    · exact propext ⟨fun _ => Or.inl hc, fun _ => Or.inl hc⟩
    · have i3 := ixx_lt hc (by omega)
      rw [h _ (th_k (show ixx (a (337 + 8 * t + 3)) < 8 by omega))]
  · rcases hg with hg | hg
    · exact propext ⟨fun _ => Or.inl hg, fun _ => Or.inl hg⟩
    · have i4 := ixx_lt hg (by omega)
      rw [h _ (th_k (show ixx (a (337 + 8 * t + 4)) < 8 by omega))]
theorem TH_gT {nk nr td : Nat} (d : Nat) : ∀ (a b : Nat → Int32) (t n : Nat) (mi tg : Int32), t + d = n → GI a n nr nk td → TH a b → TH (gT nk d a t n mi tg).1 (gT nk d b t n mi tg).1 ∧ (gT nk d a t n mi tg).2 = (gT nk d b t n mi tg).2 := by
  induction d with
  | zero => intro a b t n mi tg _ hG h; exact ⟨h, rfl⟩
  | succ d ih =>
    intro a b t n mi tg ht hG h
    have hb := hG.2.2.2.1
    have hT := hG.2.2.2.2 t (by omega)
    have h0 := hG.2.2.1
    have i1 := ixx_lt hT.1 (by omega)
    have e0 := h 0 (th_0 (by omega))
    have e1 := h (337 + 8 * t + 1) (th_t _ (by omega))
    have e2 := h (337 + 8 * t + 2) (th_t _ (by omega))
    have e7 := h (337 + 8 * t + 7) (th_t _ (by omega))
    have eL : cL a (ixx (a (337 + 8 * t + 1))) (ixx (a 0)) = cL b (ixx (b (337 + 8 * t + 1))) (ixx (b 0)) := by
      rw [← e1, ← e0]
      exact TH_cL h (by omega) (by rw [h0, ixx_nI (by omega)]; omega)
    have eC := TH_cbd h hb.2.2.1 hb.2.2.2 hT
    unfold gT
    by_cases q1 : ¬ a (337 + 8 * t + 2) = a 0
    · have q1' : ¬ b (337 + 8 * t + 2) = b 0 := by rw [← e2, ← e0]; exact q1
      rw [if_pos q1, if_pos q1']
      exact ih _ _ _ _ _ _ (by omega) hG h
    · have q1' : ¬ ¬ b (337 + 8 * t + 2) = b 0 := by rw [← e2, ← e0]; exact q1
      rw [if_neg q1, if_neg q1']
      by_cases q2 : cL a (ixx (a (337 + 8 * t + 1))) (ixx (a 0))
      · have q2' := q2
        rw [eL] at q2'
        rw [if_neg (show ¬ ¬ cL a (ixx (a (337 + 8 * t + 1))) (ixx (a 0)) from fun q => q q2), if_neg (show ¬ ¬ cL b (ixx (b (337 + 8 * t + 1))) (ixx (b 0)) from fun q => q q2')]
        by_cases q3 : cbd a t nk
        · have q3' := q3
          rw [eC] at q3'
          rw [if_pos q3, if_pos q3', ← e7]
          exact ih _ _ t (n - 1) mi _ (by omega) (GI_rm (GI_up (GI_dT hG (by omega)) (by omega)) (by omega)) (TH_rm (TH_ur (TH_ul (TH_dT h hb.2.2.1 hb.2.2.2 hT) (nth_c (by omega))) (nth_c (by omega))))
        · have q3' := q3
          rw [eC] at q3'
          rw [if_neg q3, if_neg q3']
          exact ih _ _ t (n - 1) mi _ (by omega) (GI_rm (GI_up hG (by omega)) (by omega)) (TH_rm (TH_ur (TH_ul h (nth_c (by omega))) (nth_c (by omega))))
      · have q2' := q2
        rw [eL] at q2'
        rw [if_pos q2, if_pos q2', ← e1, ← e0]
        refine ih _ _ (t + 1) n _ _ (by omega) ?_ (TH_up (TH_up h rfl) rfl)
        rw [h0, nI_add]
        exact GI_up (GI_day hG (by omega)) (by omega)
theorem TH_zDl {d i : Nat} {a b : Nat → Int32} (hd : i + d ≤ 3) (h : TH a b) : TH (zD d a i) b := by
  intro k hk
  rw [zD_at (fun u h1 h2 e => nth_d (i := u) (by omega) (e ▸ hk))]; exact h k hk
theorem TH_zDr {d i : Nat} {a b : Nat → Int32} (hd : i + d ≤ 3) (h : TH a b) : TH a (zD d b i) := by
  intro k hk
  rw [zD_at (fun u h1 h2 e => nth_d (i := u) (by omega) (e ▸ hk))]; exact h k hk
/-- the class's thin day: turns alone; then the watches that were doubled are counted -/
def aD : Nat → (Nat → Int32) → Nat → (Nat → Int32)
  | 0, r, _ => r
  | d + 1, r, i => aD d (zup r (221 + 20 * i + 3) (r (221 + 20 * i + 3) + r (221 + 20 * i + 4))) (i + 1)
theorem aD_at {d i k : Nat} {r : Nat → Int32} (h : ∀ u, i ≤ u → u < i + d → k ≠ 221 + 20 * u + 3) : aD d r i k = r k := by
  induction d generalizing r i with
  | zero => rfl
  | succ d ih => unfold aD; rw [ih (fun u h1 h2 => h u (by omega) (by omega)), zup_ne (h i (by omega) (by omega))]
def pT (g : (Nat → Int32) × Int32 × Int32) (nr : Nat) : Nat → Int32 := zup (zD nr (aD nr (zup g.1 6 (g.1 6 + g.2.1)) 0) 0) 0 (g.1 0 + nI 1)
theorem EG_aD {G : Nat → Nat → Int32} {nr nk td n : Nat} (hnr : nr ≤ 3) (hnk : nk ≤ 8) (d : Nat) : ∀ (r : Nat → Int32) (i : Nat), i + d = nr → EG G r nr nk td n i → EG G (aD d r i) nr nk td n nr := by
  induction d with
  | zero => intro r i hi h; obtain rfl : i = nr := by omega
            exact h
  | succ d ih => intro r i hi h; unfold aD; exact ih _ (i + 1) (by omega) (EG_db h hnr hnk (by omega))
theorem thin_end {G : Nat → Nat → Int32} {p : Nat → Nat} {g : Nat → Int32} {n nr nk td : Nat} {mi tg : Int32} (hM : MF G p g n nr nk td mi) : CR (zup G 0 (zup (G 0) 0 (nI (td + 1)))) p (pT (g, mi, tg) nr) nr nk n (td + 1) := by
  obtain ⟨⟨hGI, hKP, hr1, hX1, hX2, hX3, hX4, hX5, hX6⟩, hMG, hU, hP, -, -, -, hn12⟩ := hM
  have hb := hGI.2.2.2.1
  have hE := EG_aD hb.2.2.1 hb.2.2.2 nr _ 0 (by omega) (EG_of hMG hb.2.2.1 hb.2.2.2)
  unfold pT
  simp only
  generalize hrr : aD nr (zup g 6 (g 6 + mi)) 0 = rr at *
  have c : ∀ k, k ≠ 6 → (∀ u, u < 3 → k ≠ 221 + 20 * u + 3) → rr k = g k := fun k h6 h => by rw [← hrr, aD_at (fun u q1 q2 => h u (by omega)), zup_ne h6]
  obtain ⟨⟨c0, c1, c2, c3', c4, c5, c6⟩, ⟨hB1, hB2⟩, ⟨h3, hD, hSt, hFr⟩, hK, hKf⟩ := hE
  have hz : ∀ k, k ≠ 0 → (∀ u, u < 3 → k ≠ 221 + 20 * u + 4) → zup (zD nr rr 0) 0 (g 0 + nI 1) k = rr k := fun k h0 h => by rw [zup_ne h0, zD_at (fun u q1 q2 => h u (by omega))]
  have hz2 : ∀ k, k ≠ 0 → k < 221 ∨ 281 ≤ k → zup (zD nr rr 0) 0 (g 0 + nI 1) k = rr k := fun k h0 h => hz k h0 (fun u hu => by omega)
  have e0 : zup (zD nr rr 0) 0 (g 0 + nI 1) 0 = nI (td + 1) := by rw [zup_eq rfl, hGI.2.2.1, nI_add]
  generalize hr' : zup (zD nr rr 0) 0 (g 0 + nI 1) = r' at *
  have cz : ∀ k, k ≠ 0 → k ≠ 6 → k < 221 ∨ 281 ≤ k → r' k = g k := fun k h0 h6 h => by rw [hz2 k h0 h, c k h6 (fun u hu => by omega)]
  have ho : ∀ u, u < n → obj p n n u = p u := fun u hu => by unfold obj; rw [if_pos hu]
  refine ⟨⟨?_, ?_, ?_, e0, ⟨by omega, hb.2.1, hb.2.2⟩, ?_, ?_⟩, ⟨?_, ?_, ?_, ?_, ?_, ?_⟩, ?_, ⟨?_, ?_⟩, ⟨?_, ?_, ?_, ?_, ?_⟩, ⟨?_, ?_⟩, ?_, hP⟩
  · rw [cz _ (by omega) (by omega) (by omega)]; exact hr1
  · rw [cz _ (by omega) (by omega) (by omega)]; exact hGI.2.1
  · rw [cz _ (by omega) (by omega) (by omega)]; exact hGI.1
  · exact fun u hu => TWc (fun f hf => cz _ (by omega) (by omega) (by omega)) (hGI.2.2.2.2 u hu)
  · exact KP_of (fun k hk => cz _ (by omega) (by omega) (by omega)) hKP
  · intro k hk; rw [cz _ (by omega) (by omega) (by omega)]; exact hX1 k hk
  · intro k hk; rw [cz _ (by omega) (by omega) (by omega)]; exact hX2 k hk
  · intro i hi
    rw [hz _ (by omega) (fun u hu => by omega), c _ (by omega) (fun u hu => by omega), kO_congr (r' := g) (fun k hk => cz _ (by omega) (by omega) (by omega))]; exact hX3 i hi
  · intro i hi s hs; rw [hz _ (by omega) (fun u hu => by omega), c _ (by omega) (fun u hu => by omega)]; exact hX4 i hi s hs
  · intro k hk
    rw [cz _ (by omega) (by omega) (by omega), cz _ (by omega) (by omega) (by omega), cz _ (by omega) (by omega) (by omega)]
    obtain ⟨q1, ⟨x, x1, x2⟩, ⟨y, y1, y2⟩⟩ := hX5 k hk
    exact ⟨q1, ⟨x, by omega, x2⟩, ⟨y, by omega, y2⟩⟩
  · intro t ht
    rw [cz _ (by omega) (by omega) (by omega), cz _ (by omega) (by omega) (by omega), cz _ (by omega) (by omega) (by omega)]
    obtain ⟨d, d1, d2, d3⟩ := (hU t ht).2.2 ht
    exact ⟨⟨d, by omega, d2, d3⟩, (hX6 t ht).2⟩
  · unfold CA
    simp (disch := omega) only [zup_eq, zup_ne]
    rw [e0, hz2 _ (by omega) (by omega), hz2 _ (by omega) (by omega), hz2 _ (by omega) (by omega), hz2 _ (by omega) (by omega), hz2 _ (by omega) (by omega), hz2 _ (by omega) (by omega)]
    refine ⟨rfl, c1, c2, c3', ?_, ?_, ?_⟩
    · rw [c 1 (by omega) (fun u hu => by omega), hr1]; exact c4
    · rw [c 2 (by omega) (fun u hu => by omega), hGI.2.1]; exact c5
    · rw [c 3 (by omega) (fun u hu => by omega), hGI.1]; exact c6
  · intro k hk; rw [zup_ne (by omega), hz2 _ (by omega) (by omega)]; exact hB1 k hk
  · intro k hk; rw [zup_ne (by omega), hz2 _ (by omega) (by omega)]; exact hB2 k hk
  · intro i hi f hf; rw [zup_ne (by omega), hz _ (by omega) (fun u hu => by omega)]; exact h3 i hi f hf
  · intro i hi; rw [zup_ne (by omega), hz _ (by omega) (fun u hu => by omega)]; exact (hD.1 i hi).2.1 hi
  · intro i hi s hs f hf; rw [zup_ne (by omega), hz _ (by omega) (fun u hu => by omega)]; exact hSt i hi s hs f hf
  · intro i hi hi3
    exact ⟨by rw [zup_ne (by omega)]; exact (hFr i hi hi3).1, fun s hs f hf => by rw [zup_ne (by omega)]; exact (hFr i hi hi3).2 s hs f hf⟩
  · intro i hi
    rw [zup_ne (by omega)]
    have key : LDo (G (6 + 5 * i) 4) td → G (6 + 5 * i) 4 = -9 ∨ ∃ d, d < td + 1 ∧ G (6 + 5 * i) 4 = nI d := fun q => q.imp id (fun ⟨d, d1, d2⟩ => ⟨d, by omega, d2⟩)
    by_cases e : i < nr
    · rcases (hD.1 i e).1 with ⟨d1, -⟩ | ⟨d1, -⟩
      · exact Or.inr ⟨td, by omega, d1⟩
      · exact key d1
    · exact key (hD.2 i (by omega) hi)
  · intro k hk f hf; rw [zup_ne (by omega), hz2 _ (by omega) (by omega)]; exact hK k hk f hf
  · intro k hk hk8
    exact ⟨by rw [zup_ne (by omega)]; exact (hKf k hk hk8).1, fun f hf hf7 => by rw [zup_ne (by omega)]; exact (hKf k hk hk8).2 f hf hf7⟩
  · intro t ht
    have hpt := hP.1 t (by omega)
    obtain ⟨q1, q2, -⟩ := hU t ht
    rw [ho t ht] at q1 q2
    refine ⟨fun f hf => ?_, ?_⟩
    · rw [zup_ne (by omega), cz _ (by omega) (by omega) (by omega)]; exact q1 f hf
    · rw [zup_ne (by omega)]; exact q2
/-- the reference's day is the thin day, for what decides turns -/
theorem TH_day {a b : Nat → Int32} {nr nk n td : Nat} (hI : RI a nr nk n td) (htd : td < 199) (hnb : TH a b) : TH (pT (gT nk n (zD nr a 0) 0 n (nI 0) (nI 0)) nr) (pD b nr nk n).1 ∧ (gT nk n (zD nr a 0) 0 n (nI 0) (nI 0)).2.2 = (pD b nr nk n).2.2 := by
  obtain ⟨i1, i2, i3, i0, hb, hT, hK⟩ := hI
  have hG : GI a n nr nk td := ⟨i3, i2, i0, ⟨htd, hb.2.1, hb.2.2⟩, hT⟩
  have hz : TH (zD nr a 0) (zD nr b 0) := TH_zDl (by omega) (TH_zDr (by omega) hnb)
  obtain ⟨g1, g2⟩ := TH_gT (nk := nk) (nr := nr) (td := td) n (zD nr a 0) (zD nr b 0) 0 n (nI 0) (nI 0) (by omega) (GI_of (fun k hk => zD_at (by omega)) hG) hz
  refine ⟨?_, by rw [g2]; rfl⟩
  intro k hk
  unfold pT pD
  simp only
  by_cases k0 : k = 0
  · rw [zup_eq k0, zup_eq k0, zD_at (by omega), rK_at (by omega) (by omega), eD_at (by omega) (by omega), zup_ne (by omega), g1 0 (th_0 (by omega))]
  · have k6 : k ≠ 6 := fun e => nth_c (k := 6) (by omega) (e ▸ hk)
    rw [zup_ne k0, zup_ne k0, zD_at (fun u h1 h2 e => nth_d (i := u) (by omega) (e ▸ hk)), zD_at (fun u h1 h2 e => nth_d (i := u) (by omega) (e ▸ hk)), aD_at (fun u h1 h2 e => nth_3 (i := u) (by omega) (e ▸ hk)), zup_ne k6, g1 k hk]
    rcases hk with h | h | ⟨i, f, h1, h2, h3⟩ | ⟨j, h1, h2⟩ | h
    · rw [rK_at (by omega) (by omega), eD_at (by omega) (by omega), zup_ne k6]
    · rw [rK_at (by omega) (by omega), eD_at (by omega) (by omega), zup_ne k6]
    · rw [rK_at (by omega) (by omega), h3, eD_3 h2 (by omega) h1, zup_ne (by omega)]
    · rw [rK_at (Or.inr (Or.inr ⟨j, h2⟩)) (by omega), eD_at (by omega) (by omega), zup_ne k6]
    · rw [rK_at (by omega) (by omega), eD_at (by omega) (by omega), zup_ne k6]
theorem n00le : (nI 0 ≤ 0) = True := eq_true (by decide)
theorem tb_iff : ∀ k, k < 12 → ∀ b, b < 12 → (tb (nI k) b ↔ k = b) := by unfold tb bit; decide +kernel
theorem bit_0 : ∀ b, b < 12 → ¬ bit b (nI 0) := by unfold bit; decide +kernel
theorem obj_00 {p : Nat → Nat} {u : Nat} : obj p 0 0 u = p u := by unfold obj; rw [if_neg (by omega)]; rfl
theorem dO_0 {nr nk t td : Nat} (ht : t < 12) (d : Nat) : ∀ (r : Nat → Int32) (td : Nat), RI r nr nk 0 td → td + d = 199 → dO nr nk t d r = -9 := by
  induction d with
  | zero => intro r td hI htd; rfl
  | succ d ih =>
    intro r td hI htd
    unfold dO
    have h3 : ixx (r 3) = 0 := by rw [hI.2.2.1, ixx_nI (by omega)]
    rw [h3]
    have hz : (pD r nr nk 0).2.2 = nI 0 := rfl
    have hnb := bit_0 t ht
    unfold bit at hnb
    rw [hz, if_neg hnb]
    obtain ⟨n', hn', hI'⟩ := pD_keep hI (by omega)
    obtain rfl : n' = 0 := by omega
    exact ih _ (td + 1) hI' (by omega)
theorem pT_t {g : (Nat → Int32) × Int32 × Int32} {nr k : Nat} (hnr : nr ≤ 3) (hk : 337 ≤ k) : pT g nr k = g.1 k := by
  unfold pT
  rw [zup_ne (by omega), zD_at (fun u h1 h2 => by omega), aD_at (fun u h1 h2 => by omega), zup_ne (by omega)]
theorem l_gone {E : zE} {Q : Int32 → zH → Prop} {w nr nk q0 : Nat} {x : Int32} {h : zH} {k' n' : Nat} {l1 : Option zV} (hw : WS h w) (hq0 : q0 < 12) (hx : x ≠ -9) (tagof : Nat → Nat) (d : Nat) : ∀ (G : Nat → Nat → Int32) (p : Nat → Nat) (c : Nat → Int32) (n td : Nat), td + d = 199 → CR G p c nr nk n td → G (29 + q0) 7 = x → (∀ u, u < n → c (337 + 8 * u + 7) = nI (tagof (p u))) →
    (∀ G' p', PM p' → Q x (WST h w G' p')) → zJ E mX7_passUntilDone (zQi Q) 17 [some (.inr w), l1, some (.inr (w + (29 + q0)))] [] (WST h w G p) k' n' := by
  obtain ⟨wk, ⟨wr7, wr8, wr9, wr10, wr11⟩, ⟨wk1, wk2, wk3, wk4, wk5⟩, ⟨wn1, wn2, wn3, wn4, wn5⟩, ⟨wRr, wRk, wR5, wRs, wRn⟩, ⟨wSr, wSk⟩, ⟨wKr, wKk⟩, wTk⟩ := id hw
  induction d with
  | zero =>
    intro G p c n td htd hR hg htg hq
    have g0 : G 0 0 = nI td := hR.2.2.1.1.trans hR.1.2.2.2.1
    have hle : 199 ≤ td := by omega
    (refine jX7_passUntilDone 200 ?_; simp (disch := omega) only [↓wX7_passUntilDone_0, ↓wX7_passUntilDone_1, ↓wX7_passUntilDone_2, ↓wX7_passUntilDone_5, ↓wX7_passUntilDone_8, ↓wX7_passUntilDone_9, ↓wX7_passUntilDone_10, ↓wX7_passUntilDone_11, ↓wX7_passUntilDone_14, ↓wX7_passUntilDone_15, ↓wX7_passUntilDone_16, ↓wX7_passUntilDone_17, ↓wX7_passUntilDone_18, ↓wX7_passUntilDone_21, ↓wX7_passUntilDone_24, ↓wX7_passUntilDone_27, ↓wX7_passUntilDone_28, ↓wX7_passUntilDone_31, ↓wX7_passUntilDone_34, ↓wX7_passUntilDone_35, ↓wX7_passUntilDone_38, ↓wX7_passUntilDone_39, ↓wX7_passUntilDone_40, ↓wX7_passUntilDone_43, ↓wX7_passUntilDone_44, ↓wX7_passUntilDone_45, ↓wX7_passUntilDone_48, ↓wX7_passUntilDone_51, ↓wX7_passUntilDone_52, ↓wX7_passUntilDone_55, zQi_def, zQa_def, zQv_def, nI00, nI10, nI11, nI01, true_or, or_true, false_or, or_false, eq_self, true_implies, false_implies, not_true_eq_false, not_false_eq_true, zc9, zc1, zc2, zc3, zc1000, nI_m9, nI_add, pk_mul, ix_nI, vpT, zk_zpi, zn_zpi, zr_zpi, zk_zpa, zn_zpa, zr_zpa, zsz_zpi, zsz_zpa, zi_zpa, zpi_pa, zpa_zpa, true_and, and_true, and_self, zk_WST, zn_WST, zsz_WST, zi_WST, zi_WST0, zr_WST5, zr_WSTN, zpa_WST, zpa_WST0, zpr_WST5, zup2_eq, zup2_ne, zup_eq, zup_ne, q22, q23, q24, q25, q26, q27, zAk26, wk, wr7, wr8, wr9, wr10, wr11, wk1, wk2, wk3, wk4, wk5, wn1, wn2, wn3, wn4, wn5, wRr, wRk, wR5, wRs, wRn, wSr, wSk, wKr, wKk, wTk, g0, nI_leI, hle, hg])
    exact hq G p hR.2.2.2.2.2.2.2
  | succ d ih =>
    intro G p c n td htd hR hg htg hq
    have hb := hR.1.2.2.2.2.1
    have g0 : G 0 0 = nI td := hR.2.2.1.1.trans hR.1.2.2.2.1
    have g6 : G 0 6 = nI n := hR.2.2.1.2.2.2.2.2.2.trans hR.1.2.2.1
    have hle : ¬ 199 ≤ td := by omega
    by_cases hn : n = 0
    · subst hn
      (refine jX7_passUntilDone 200 ?_; simp (disch := omega) only [↓wX7_passUntilDone_0, ↓wX7_passUntilDone_1, ↓wX7_passUntilDone_2, ↓wX7_passUntilDone_5, ↓wX7_passUntilDone_8, ↓wX7_passUntilDone_9, ↓wX7_passUntilDone_10, ↓wX7_passUntilDone_11, ↓wX7_passUntilDone_14, ↓wX7_passUntilDone_15, ↓wX7_passUntilDone_16, ↓wX7_passUntilDone_17, ↓wX7_passUntilDone_18, ↓wX7_passUntilDone_21, ↓wX7_passUntilDone_24, ↓wX7_passUntilDone_27, ↓wX7_passUntilDone_28, ↓wX7_passUntilDone_31, ↓wX7_passUntilDone_34, ↓wX7_passUntilDone_35, ↓wX7_passUntilDone_38, ↓wX7_passUntilDone_39, ↓wX7_passUntilDone_40, ↓wX7_passUntilDone_43, ↓wX7_passUntilDone_44, ↓wX7_passUntilDone_45, ↓wX7_passUntilDone_48, ↓wX7_passUntilDone_51, ↓wX7_passUntilDone_52, ↓wX7_passUntilDone_55, zQi_def, zQa_def, zQv_def, nI00, nI10, nI11, nI01, true_or, or_true, false_or, or_false, eq_self, true_implies, false_implies, not_true_eq_false, not_false_eq_true, zc9, zc1, zc2, zc3, zc1000, nI_m9, nI_add, pk_mul, ix_nI, vpT, zk_zpi, zn_zpi, zr_zpi, zk_zpa, zn_zpa, zr_zpa, zsz_zpi, zsz_zpa, zi_zpa, zpi_pa, zpa_zpa, true_and, and_true, and_self, zk_WST, zn_WST, zsz_WST, zi_WST, zi_WST0, zr_WST5, zr_WSTN, zpa_WST, zpa_WST0, zpr_WST5, zup2_eq, zup2_ne, zup_eq, zup_ne, q22, q23, q24, q25, q26, q27, zAk26, wk, wr7, wr8, wr9, wr10, wr11, wk1, wk2, wk3, wk4, wk5, wn1, wn2, wn3, wn4, wn5, wRr, wRk, wR5, wRs, wRn, wSr, wSk, wKr, wKk, wTk, g0, g6, nI_leI, hle, hg, ltle, n00le])
      exact hq G p hR.2.2.2.2.2.2.2
    · have hn0 : (nI n ≤ 0) = False := eq_false (fun q => hn (by rw [i32le, nIn (by omega), i32_0] at q; omega))
      obtain ⟨s1, s2, s3⟩ := day_start hR (by omega)
      (refine jX7_passUntilDone 200 ?_; simp (disch := omega) only [↓wX7_passUntilDone_0, ↓wX7_passUntilDone_1, ↓wX7_passUntilDone_2, ↓wX7_passUntilDone_5, ↓wX7_passUntilDone_8, ↓wX7_passUntilDone_9, ↓wX7_passUntilDone_10, ↓wX7_passUntilDone_11, ↓wX7_passUntilDone_14, ↓wX7_passUntilDone_15, ↓wX7_passUntilDone_16, ↓wX7_passUntilDone_17, ↓wX7_passUntilDone_18, ↓wX7_passUntilDone_21, ↓wX7_passUntilDone_24, ↓wX7_passUntilDone_27, ↓wX7_passUntilDone_28, ↓wX7_passUntilDone_31, ↓wX7_passUntilDone_34, ↓wX7_passUntilDone_35, ↓wX7_passUntilDone_38, ↓wX7_passUntilDone_39, ↓wX7_passUntilDone_40, ↓wX7_passUntilDone_43, ↓wX7_passUntilDone_44, ↓wX7_passUntilDone_45, ↓wX7_passUntilDone_48, ↓wX7_passUntilDone_51, ↓wX7_passUntilDone_52, ↓wX7_passUntilDone_55, zQi_def, zQa_def, zQv_def, nI00, nI10, nI11, nI01, true_or, or_true, false_or, or_false, eq_self, true_implies, false_implies, not_true_eq_false, not_false_eq_true, zc9, zc1, zc2, zc3, zc1000, nI_m9, nI_add, pk_mul, ix_nI, vpT, zk_zpi, zn_zpi, zr_zpi, zk_zpa, zn_zpa, zr_zpa, zsz_zpi, zsz_zpa, zi_zpa, zpi_pa, zpa_zpa, true_and, and_true, and_self, zk_WST, zn_WST, zsz_WST, zi_WST, zi_WST0, zr_WST5, zr_WSTN, zpa_WST, zpa_WST0, zpr_WST5, zup2_eq, zup2_ne, zup_eq, zup_ne, q22, q23, q24, q25, q26, q27, zAk26, wk, wr7, wr8, wr9, wr10, wr11, wk1, wk2, wk3, wk4, wk5, wn1, wn2, wn3, wn4, wn5, wRr, wRk, wR5, wRs, wRn, wSr, wSk, wKr, wKk, wTk, g0, g6, nI_leI, hle, ltle, hn0])
      refine v_goThrough (nI 0) hw s1 s2 s3 ?_
      intro G1 p1 n1 hM hDT
      have c0 := hM.2.1.1.1
      obtain ⟨t1, D, t2, t3⟩ := hDT (fun q => nI (tagof q)) (fun u hu => by rw [zD_at (fun u h1 h2 => by omega), obj_00]; exact htg u hu)
      have hnD : ¬ D q0 := fun hd => by
        obtain ⟨-, v, v1, v2, v3⟩ := (t2 q0 hq0).1 hd
        have := (hR.2.2.2.2.2.2.1 v (by omega)).2
        rw [← v3, hg] at this
        exact hx this
      have hg1 := (t2 q0 hq0).2 hnD
      rw [hg] at hg1
      try simp (disch := omega) only [↓wX7_passUntilDone_0, ↓wX7_passUntilDone_1, ↓wX7_passUntilDone_2, ↓wX7_passUntilDone_5, ↓wX7_passUntilDone_8, ↓wX7_passUntilDone_9, ↓wX7_passUntilDone_10, ↓wX7_passUntilDone_11, ↓wX7_passUntilDone_14, ↓wX7_passUntilDone_15, ↓wX7_passUntilDone_16, ↓wX7_passUntilDone_17, ↓wX7_passUntilDone_18, ↓wX7_passUntilDone_21, ↓wX7_passUntilDone_24, ↓wX7_passUntilDone_27, ↓wX7_passUntilDone_28, ↓wX7_passUntilDone_31, ↓wX7_passUntilDone_34, ↓wX7_passUntilDone_35, ↓wX7_passUntilDone_38, ↓wX7_passUntilDone_39, ↓wX7_passUntilDone_40, ↓wX7_passUntilDone_43, ↓wX7_passUntilDone_44, ↓wX7_passUntilDone_45, ↓wX7_passUntilDone_48, ↓wX7_passUntilDone_51, ↓wX7_passUntilDone_52, ↓wX7_passUntilDone_55, zQi_def, zQa_def, zQv_def, nI00, nI10, nI11, nI01, true_or, or_true, false_or, or_false, eq_self, true_implies, false_implies, not_true_eq_false, not_false_eq_true, zc9, zc1, zc2, zc3, zc1000, nI_m9, nI_add, pk_mul, ix_nI, vpT, zk_zpi, zn_zpi, zr_zpi, zk_zpa, zn_zpa, zr_zpa, zsz_zpi, zsz_zpa, zi_zpa, zpi_pa, zpa_zpa, true_and, and_true, and_self, zk_WST, zn_WST, zsz_WST, zi_WST, zi_WST0, zr_WST5, zr_WSTN, zpa_WST, zpa_WST0, zpr_WST5, zup2_eq, zup2_ne, zup_eq, zup_ne, q22, q23, q24, q25, q26, q27, zAk26, wk, wr7, wr8, wr9, wr10, wr11, wk1, wk2, wk3, wk4, wk5, wn1, wn2, wn3, wn4, wn5, wRr, wRk, wR5, wRs, wRn, wSr, wSk, wKr, wKk, wTk, c0]
      refine ih _ p1 _ n1 (td + 1) (by omega) (thin_end (tg := nI 0) hM) (by rw [zup_ne (by omega)]; exact hg1) (fun u hu => ?_) hq
      rw [pT_t hb.2.2.1 (by omega)]
      exact t1 u hu
theorem l_untilC {E : zE} {Q : Int32 → zH → Prop} {w nr nk q0 t0 : Nat} {h : zH} {k' n' : Nat} {l1 : Option zV} (hw : WS h w) (hq0 : q0 < 12) (ht0 : t0 < 12) (tagof : Nat → Nat) (hto : ∀ q, q < 12 → tagof q < 12 ∧ (tagof q = t0 → q = q0)) (htq : tagof q0 = t0) (d : Nat) : ∀ (G : Nat → Nat → Int32) (p : Nat → Nat) (c r : Nat → Int32) (n td : Nat), td + d = 199 → CR G p c nr nk n td → RI r nr nk n td → TH c r → G (29 + q0) 7 = -9 → (∀ u, u < n → c (337 + 8 * u + 7) = nI (tagof (p u))) →
    (∀ G' p', PM p' → Q (dO nr nk t0 d r) (WST h w G' p')) → zJ E mX7_passUntilDone (zQi Q) 17 [some (.inr w), l1, some (.inr (w + (29 + q0)))] [] (WST h w G p) k' n' := by
  obtain ⟨wk, ⟨wr7, wr8, wr9, wr10, wr11⟩, ⟨wk1, wk2, wk3, wk4, wk5⟩, ⟨wn1, wn2, wn3, wn4, wn5⟩, ⟨wRr, wRk, wR5, wRs, wRn⟩, ⟨wSr, wSk⟩, ⟨wKr, wKk⟩, wTk⟩ := id hw
  induction d with
  | zero =>
    intro G p c r n td htd hR hIr hTH hg htg hq
    have g0 : G 0 0 = nI td := hR.2.2.1.1.trans hR.1.2.2.2.1
    have hle : 199 ≤ td := by omega
    (refine jX7_passUntilDone 200 ?_; simp (disch := omega) only [↓wX7_passUntilDone_0, ↓wX7_passUntilDone_1, ↓wX7_passUntilDone_2, ↓wX7_passUntilDone_5, ↓wX7_passUntilDone_8, ↓wX7_passUntilDone_9, ↓wX7_passUntilDone_10, ↓wX7_passUntilDone_11, ↓wX7_passUntilDone_14, ↓wX7_passUntilDone_15, ↓wX7_passUntilDone_16, ↓wX7_passUntilDone_17, ↓wX7_passUntilDone_18, ↓wX7_passUntilDone_21, ↓wX7_passUntilDone_24, ↓wX7_passUntilDone_27, ↓wX7_passUntilDone_28, ↓wX7_passUntilDone_31, ↓wX7_passUntilDone_34, ↓wX7_passUntilDone_35, ↓wX7_passUntilDone_38, ↓wX7_passUntilDone_39, ↓wX7_passUntilDone_40, ↓wX7_passUntilDone_43, ↓wX7_passUntilDone_44, ↓wX7_passUntilDone_45, ↓wX7_passUntilDone_48, ↓wX7_passUntilDone_51, ↓wX7_passUntilDone_52, ↓wX7_passUntilDone_55, zQi_def, zQa_def, zQv_def, nI00, nI10, nI11, nI01, true_or, or_true, false_or, or_false, eq_self, true_implies, false_implies, not_true_eq_false, not_false_eq_true, zc9, zc1, zc2, zc3, zc1000, nI_m9, nI_add, pk_mul, ix_nI, vpT, zk_zpi, zn_zpi, zr_zpi, zk_zpa, zn_zpa, zr_zpa, zsz_zpi, zsz_zpa, zi_zpa, zpi_pa, zpa_zpa, true_and, and_true, and_self, zk_WST, zn_WST, zsz_WST, zi_WST, zi_WST0, zr_WST5, zr_WSTN, zpa_WST, zpa_WST0, zpr_WST5, zup2_eq, zup2_ne, zup_eq, zup_ne, q22, q23, q24, q25, q26, q27, zAk26, wk, wr7, wr8, wr9, wr10, wr11, wk1, wk2, wk3, wk4, wk5, wn1, wn2, wn3, wn4, wn5, wRr, wRk, wR5, wRs, wRn, wSr, wSk, wKr, wKk, wTk, g0, nI_leI, hle, hg])
    exact hq G p hR.2.2.2.2.2.2.2
  | succ d ih =>
    intro G p c r n td htd hR hIr hTH hg htg hq
    have hb := hR.1.2.2.2.2.1
    have g0 : G 0 0 = nI td := hR.2.2.1.1.trans hR.1.2.2.2.1
    have g6 : G 0 6 = nI n := hR.2.2.1.2.2.2.2.2.2.trans hR.1.2.2.1
    have hle : ¬ 199 ≤ td := by omega
    by_cases hn : n = 0
    · subst hn
      rw [dO_0 (td := td) ht0 (d + 1) r td hIr htd] at hq
      (refine jX7_passUntilDone 200 ?_; simp (disch := omega) only [↓wX7_passUntilDone_0, ↓wX7_passUntilDone_1, ↓wX7_passUntilDone_2, ↓wX7_passUntilDone_5, ↓wX7_passUntilDone_8, ↓wX7_passUntilDone_9, ↓wX7_passUntilDone_10, ↓wX7_passUntilDone_11, ↓wX7_passUntilDone_14, ↓wX7_passUntilDone_15, ↓wX7_passUntilDone_16, ↓wX7_passUntilDone_17, ↓wX7_passUntilDone_18, ↓wX7_passUntilDone_21, ↓wX7_passUntilDone_24, ↓wX7_passUntilDone_27, ↓wX7_passUntilDone_28, ↓wX7_passUntilDone_31, ↓wX7_passUntilDone_34, ↓wX7_passUntilDone_35, ↓wX7_passUntilDone_38, ↓wX7_passUntilDone_39, ↓wX7_passUntilDone_40, ↓wX7_passUntilDone_43, ↓wX7_passUntilDone_44, ↓wX7_passUntilDone_45, ↓wX7_passUntilDone_48, ↓wX7_passUntilDone_51, ↓wX7_passUntilDone_52, ↓wX7_passUntilDone_55, zQi_def, zQa_def, zQv_def, nI00, nI10, nI11, nI01, true_or, or_true, false_or, or_false, eq_self, true_implies, false_implies, not_true_eq_false, not_false_eq_true, zc9, zc1, zc2, zc3, zc1000, nI_m9, nI_add, pk_mul, ix_nI, vpT, zk_zpi, zn_zpi, zr_zpi, zk_zpa, zn_zpa, zr_zpa, zsz_zpi, zsz_zpa, zi_zpa, zpi_pa, zpa_zpa, true_and, and_true, and_self, zk_WST, zn_WST, zsz_WST, zi_WST, zi_WST0, zr_WST5, zr_WSTN, zpa_WST, zpa_WST0, zpr_WST5, zup2_eq, zup2_ne, zup_eq, zup_ne, q22, q23, q24, q25, q26, q27, zAk26, wk, wr7, wr8, wr9, wr10, wr11, wk1, wk2, wk3, wk4, wk5, wn1, wn2, wn3, wn4, wn5, wRr, wRk, wR5, wRs, wRn, wSr, wSk, wKr, wKk, wTk, g0, g6, nI_leI, hle, hg, ltle, n00le])
      exact hq G p hR.2.2.2.2.2.2.2
    · have hn0 : (nI n ≤ 0) = False := eq_false (fun q => hn (by rw [i32le, nIn (by omega), i32_0] at q; omega))
      obtain ⟨s1, s2, s3⟩ := day_start hR (by omega)
      obtain ⟨d1, d2⟩ := TH_day hR.1 (by omega) hTH
      (refine jX7_passUntilDone 200 ?_; simp (disch := omega) only [↓wX7_passUntilDone_0, ↓wX7_passUntilDone_1, ↓wX7_passUntilDone_2, ↓wX7_passUntilDone_5, ↓wX7_passUntilDone_8, ↓wX7_passUntilDone_9, ↓wX7_passUntilDone_10, ↓wX7_passUntilDone_11, ↓wX7_passUntilDone_14, ↓wX7_passUntilDone_15, ↓wX7_passUntilDone_16, ↓wX7_passUntilDone_17, ↓wX7_passUntilDone_18, ↓wX7_passUntilDone_21, ↓wX7_passUntilDone_24, ↓wX7_passUntilDone_27, ↓wX7_passUntilDone_28, ↓wX7_passUntilDone_31, ↓wX7_passUntilDone_34, ↓wX7_passUntilDone_35, ↓wX7_passUntilDone_38, ↓wX7_passUntilDone_39, ↓wX7_passUntilDone_40, ↓wX7_passUntilDone_43, ↓wX7_passUntilDone_44, ↓wX7_passUntilDone_45, ↓wX7_passUntilDone_48, ↓wX7_passUntilDone_51, ↓wX7_passUntilDone_52, ↓wX7_passUntilDone_55, zQi_def, zQa_def, zQv_def, nI00, nI10, nI11, nI01, true_or, or_true, false_or, or_false, eq_self, true_implies, false_implies, not_true_eq_false, not_false_eq_true, zc9, zc1, zc2, zc3, zc1000, nI_m9, nI_add, pk_mul, ix_nI, vpT, zk_zpi, zn_zpi, zr_zpi, zk_zpa, zn_zpa, zr_zpa, zsz_zpi, zsz_zpa, zi_zpa, zpi_pa, zpa_zpa, true_and, and_true, and_self, zk_WST, zn_WST, zsz_WST, zi_WST, zi_WST0, zr_WST5, zr_WSTN, zpa_WST, zpa_WST0, zpr_WST5, zup2_eq, zup2_ne, zup_eq, zup_ne, q22, q23, q24, q25, q26, q27, zAk26, wk, wr7, wr8, wr9, wr10, wr11, wk1, wk2, wk3, wk4, wk5, wn1, wn2, wn3, wn4, wn5, wRr, wRk, wR5, wRs, wRn, wSr, wSk, wKr, wKk, wTk, g0, g6, nI_leI, hle, ltle, hn0])
      refine v_goThrough (nI 0) hw s1 s2 s3 ?_
      intro G1 p1 n1 hM hDT
      have c0 := hM.2.1.1.1
      obtain ⟨t1, D, t2, t3⟩ := hDT (fun q => nI (tagof q)) (fun u hu => by rw [zD_at (fun u h1 h2 => by omega), obj_00]; exact htg u hu)
      have hCR := thin_end (tg := (gT nk n (zD nr c 0) 0 n (nI 0) (nI 0)).2.2) hM
      have htags : ∀ u, u < n1 → pT (gT nk n (zD nr c 0) 0 n (nI 0) (nI 0)) nr (337 + 8 * u + 7) = nI (tagof (p1 u)) := fun u hu => by
        rw [pT_t hb.2.2.1 (by omega)]
        exact t1 u hu
      have hbit : bit t0 (pD r nr nk n).2.2 ↔ D q0 := by
        rw [← d2, t3 t0 ht0]
        constructor
        · rintro (q | ⟨q, q1, q2, q3⟩)
          · exact absurd q (bit_0 t0 ht0)
          · rw [tb_iff _ (hto q q1).1 _ ht0] at q3
            rw [← (hto q q1).2 q3]; exact q2
        · intro q
          exact Or.inr ⟨q0, hq0, q, (tb_iff _ (hto q0 hq0).1 _ ht0).mpr htq⟩
      have hn3 : ixx (r 3) = n := by rw [hIr.2.2.1, ixx_nI (by omega)]
      unfold dO at hq
      rw [hn3] at hq
      unfold bit at hbit
      try simp (disch := omega) only [↓wX7_passUntilDone_0, ↓wX7_passUntilDone_1, ↓wX7_passUntilDone_2, ↓wX7_passUntilDone_5, ↓wX7_passUntilDone_8, ↓wX7_passUntilDone_9, ↓wX7_passUntilDone_10, ↓wX7_passUntilDone_11, ↓wX7_passUntilDone_14, ↓wX7_passUntilDone_15, ↓wX7_passUntilDone_16, ↓wX7_passUntilDone_17, ↓wX7_passUntilDone_18, ↓wX7_passUntilDone_21, ↓wX7_passUntilDone_24, ↓wX7_passUntilDone_27, ↓wX7_passUntilDone_28, ↓wX7_passUntilDone_31, ↓wX7_passUntilDone_34, ↓wX7_passUntilDone_35, ↓wX7_passUntilDone_38, ↓wX7_passUntilDone_39, ↓wX7_passUntilDone_40, ↓wX7_passUntilDone_43, ↓wX7_passUntilDone_44, ↓wX7_passUntilDone_45, ↓wX7_passUntilDone_48, ↓wX7_passUntilDone_51, ↓wX7_passUntilDone_52, ↓wX7_passUntilDone_55, zQi_def, zQa_def, zQv_def, nI00, nI10, nI11, nI01, true_or, or_true, false_or, or_false, eq_self, true_implies, false_implies, not_true_eq_false, not_false_eq_true, zc9, zc1, zc2, zc3, zc1000, nI_m9, nI_add, pk_mul, ix_nI, vpT, zk_zpi, zn_zpi, zr_zpi, zk_zpa, zn_zpa, zr_zpa, zsz_zpi, zsz_zpa, zi_zpa, zpi_pa, zpa_zpa, true_and, and_true, and_self, zk_WST, zn_WST, zsz_WST, zi_WST, zi_WST0, zr_WST5, zr_WSTN, zpa_WST, zpa_WST0, zpr_WST5, zup2_eq, zup2_ne, zup_eq, zup_ne, q22, q23, q24, q25, q26, q27, zAk26, wk, wr7, wr8, wr9, wr10, wr11, wk1, wk2, wk3, wk4, wk5, wn1, wn2, wn3, wn4, wn5, wRr, wRk, wR5, wRs, wRn, wSr, wSk, wKr, wKk, wTk, c0]
      by_cases hd : D q0
      · rw [if_pos (hbit.mpr hd)] at hq
        have e0 : (pD r nr nk n).1 0 = nI (td + 1) := by
          rw [← d1 0 (th_0 (by omega))]
          exact hCR.1.2.2.2.1
        rw [e0, pk_sub (by omega), Nat.add_sub_cancel] at hq
        exact l_gone hw hq0 (x := nI td) (by rw [ne_eq, nI_m9 (by omega)]; exact fun q => q) tagof d _ p1 _ n1 (td + 1) (by omega) hCR (by rw [zup_ne (by omega)]; exact ((t2 q0 hq0).1 hd).1) htags hq
      · rw [if_neg (fun q => hd (hbit.mp q))] at hq
        obtain ⟨n2, hn2, hI2⟩ := pD_keep hIr (by omega)
        have e3 : n2 = n1 := by
          have q1 := d1 3 (th_0 (by omega))
          rw [hI2.2.2.1] at q1
          have q2 : pT (gT nk n (zD nr c 0) 0 n (nI 0) (nI 0)) nr 3 = nI n1 := hCR.1.2.2.1
          rw [q2] at q1
          have := hM.1.1.2.2.2.1
          exact (nIinj (by omega) (by omega) q1).symm
        subst e3
        refine ih _ p1 _ _ n2 (td + 1) (by omega) hCR hI2 d1 ?_ htags hq
        rw [zup_ne (by omega), (t2 q0 hq0).2 hd]
        exact hg
theorem v_until {E : zE} {Q : Int32 → zH → Prop} {w nr nk n td : Nat} {t : Int32} {h : zH} {G : Nat → Nat → Int32} {p : Nat → Nat} {r : Nat → Int32} (hw : WS h w) (hR : CR G p r nr nk n td) (htg : ∀ u, u < n → r (337 + 8 * u + 7) = nI u)
    (hq : ∀ G' p', PM p' → Q (if inN t n then dO nr nk (ixx t) (199 - td) r else -1) (WST h w G' p')) : zMi E mX7_passUntilDone [.inr w, .inl t] (WST h w G p) Q := by
  obtain ⟨wk, ⟨wr7, wr8, wr9, wr10, wr11⟩, ⟨wk1, wk2, wk3, wk4, wk5⟩, ⟨wn1, wn2, wn3, wn4, wn5⟩, ⟨wRr, wRk, wR5, wRs, wRn⟩, ⟨wSr, wSk⟩, ⟨wKr, wKk⟩, wTk⟩ := id hw
  have hI := hR.1
  have hb := hI.2.2.2.2.1
  have hP := hR.2.2.2.2.2.2.2
  have hTu := hR.2.2.2.2.2.2.1
  have g6 : G 0 6 = nI n := hR.2.2.1.2.2.2.2.2.2.trans hI.2.2.1
  (refine eX7_passUntilDone 200 ?_; simp (disch := omega) only [↓wX7_passUntilDone_0, ↓wX7_passUntilDone_1, ↓wX7_passUntilDone_2, ↓wX7_passUntilDone_5, ↓wX7_passUntilDone_8, ↓wX7_passUntilDone_9, ↓wX7_passUntilDone_10, ↓wX7_passUntilDone_11, ↓wX7_passUntilDone_14, ↓wX7_passUntilDone_15, ↓wX7_passUntilDone_16, ↓wX7_passUntilDone_17, ↓wX7_passUntilDone_18, ↓wX7_passUntilDone_21, ↓wX7_passUntilDone_24, ↓wX7_passUntilDone_27, ↓wX7_passUntilDone_28, ↓wX7_passUntilDone_31, ↓wX7_passUntilDone_34, ↓wX7_passUntilDone_35, ↓wX7_passUntilDone_38, ↓wX7_passUntilDone_39, ↓wX7_passUntilDone_40, ↓wX7_passUntilDone_43, ↓wX7_passUntilDone_44, ↓wX7_passUntilDone_45, ↓wX7_passUntilDone_48, ↓wX7_passUntilDone_51, ↓wX7_passUntilDone_52, ↓wX7_passUntilDone_55, zQi_def, zQa_def, zQv_def, nI00, nI10, nI11, nI01, true_or, or_true, false_or, or_false, eq_self, true_implies, false_implies, not_true_eq_false, not_false_eq_true, zc9, zc1, zc2, zc3, zc1000, nI_m9, nI_add, pk_mul, ix_nI, vpT, zk_zpi, zn_zpi, zr_zpi, zk_zpa, zn_zpa, zr_zpa, zsz_zpi, zsz_zpa, zi_zpa, zpi_pa, zpa_zpa, true_and, and_true, and_self, zk_WST, zn_WST, zsz_WST, zi_WST, zi_WST0, zr_WST5, zr_WSTN, zpa_WST, zpa_WST0, zpr_WST5, zup2_eq, zup2_ne, zup_eq, zup_ne, q22, q23, q24, q25, q26, q27, zAk26, wk])
  refine v_hasTurn hw hb.2.1 g6 ?_
  by_cases ht : inN t n
  · obtain ⟨j, hj, rfl⟩ := (inN_iff (by omega)).mp ht
    have hpj := hP.1 j (by omega)
    rw [if_pos ht, ixx_nI (by omega)] at hq
    simp (disch := omega) only [zb_t ht, ↓wX7_passUntilDone_0, ↓wX7_passUntilDone_1, ↓wX7_passUntilDone_2, ↓wX7_passUntilDone_5, ↓wX7_passUntilDone_8, ↓wX7_passUntilDone_9, ↓wX7_passUntilDone_10, ↓wX7_passUntilDone_11, ↓wX7_passUntilDone_14, ↓wX7_passUntilDone_15, ↓wX7_passUntilDone_16, ↓wX7_passUntilDone_17, ↓wX7_passUntilDone_18, ↓wX7_passUntilDone_21, ↓wX7_passUntilDone_24, ↓wX7_passUntilDone_27, ↓wX7_passUntilDone_28, ↓wX7_passUntilDone_31, ↓wX7_passUntilDone_34, ↓wX7_passUntilDone_35, ↓wX7_passUntilDone_38, ↓wX7_passUntilDone_39, ↓wX7_passUntilDone_40, ↓wX7_passUntilDone_43, ↓wX7_passUntilDone_44, ↓wX7_passUntilDone_45, ↓wX7_passUntilDone_48, ↓wX7_passUntilDone_51, ↓wX7_passUntilDone_52, ↓wX7_passUntilDone_55, zQi_def, zQa_def, zQv_def, nI00, nI10, nI11, nI01, true_or, or_true, false_or, or_false, eq_self, true_implies, false_implies, not_true_eq_false, not_false_eq_true, zc9, zc1, zc2, zc3, zc1000, nI_m9, nI_add, pk_mul, ix_nI, vpT, zk_zpi, zn_zpi, zr_zpi, zk_zpa, zn_zpa, zr_zpa, zsz_zpi, zsz_zpa, zi_zpa, zpi_pa, zpa_zpa, true_and, and_true, and_self, zk_WST, zn_WST, zsz_WST, zi_WST, zi_WST0, zr_WST5, zr_WSTN, zpa_WST, zpa_WST0, zpr_WST5, zup2_eq, zup2_ne, zup_eq, zup_ne, q22, q23, q24, q25, q26, q27, zAk26, wk, wr7, wr8, wr9, wr10, wr11, wk1, wk2, wk3, wk4, wk5, wn1, wn2, wn3, wn4, wn5, wRr, wRk, wR5, wRs, wRn, wSr, wSk, wKr, wKk, wTk]
    have ex : ∀ q, ∃ k, k < 12 ∧ (∀ u, u < 12 → p u = q → k = u) ∧ ((∀ u, u < 12 → p u ≠ q) → k ≠ j) := by
      intro q
      by_cases hu : ∃ u, u < 12 ∧ p u = q
      · obtain ⟨u, u1, u2⟩ := hu
        exact ⟨u, u1, fun v v1 v2 => hP.2 u v u1 v1 (u2.trans v2.symm), fun hn => absurd u2 (hn u u1)⟩
      · refine ⟨if j = 0 then 1 else 0, by split <;> omega, fun u u1 u2 => absurd ⟨u, u1, u2⟩ hu, fun _ => by split <;> omega⟩
    have ex2 : ∃ tagof : Nat → Nat, ∀ q, tagof q < 12 ∧ (∀ u, u < 12 → p u = q → tagof q = u) ∧ ((∀ u, u < 12 → p u ≠ q) → tagof q ≠ j) := ⟨fun q => Classical.choose (ex q), fun q => Classical.choose_spec (ex q)⟩
    obtain ⟨tagof, hto⟩ := ex2
    refine l_untilC (t0 := j) hw hpj (by omega) tagof (fun q hq12 => ⟨(hto q).1, fun e => ?_⟩) ((hto (p j)).2.1 j (by omega) rfl) (199 - td) G p r r n td (by omega) hR hI (fun k hk => rfl) (hTu j hj).2 (fun u hu => ?_) hq
    · refine Classical.byContradiction fun hne => ?_
      by_cases hu : ∃ u, u < 12 ∧ p u = q
      · obtain ⟨u, u1, u2⟩ := hu
        have := (hto q).2.1 u u1 u2
        rw [e] at this
        subst this
        exact hne u2.symm
      · exact (hto q).2.2 (fun u u1 u2 => hu ⟨u, u1, u2⟩) e
    · rw [htg u hu, (hto (p u)).2.1 u (by omega) rfl]
  · rw [if_neg ht] at hq
    simp (disch := omega) only [zb_f ht, ↓wX7_passUntilDone_0, ↓wX7_passUntilDone_1, ↓wX7_passUntilDone_2, ↓wX7_passUntilDone_5, ↓wX7_passUntilDone_8, ↓wX7_passUntilDone_9, ↓wX7_passUntilDone_10, ↓wX7_passUntilDone_11, ↓wX7_passUntilDone_14, ↓wX7_passUntilDone_15, ↓wX7_passUntilDone_16, ↓wX7_passUntilDone_17, ↓wX7_passUntilDone_18, ↓wX7_passUntilDone_21, ↓wX7_passUntilDone_24, ↓wX7_passUntilDone_27, ↓wX7_passUntilDone_28, ↓wX7_passUntilDone_31, ↓wX7_passUntilDone_34, ↓wX7_passUntilDone_35, ↓wX7_passUntilDone_38, ↓wX7_passUntilDone_39, ↓wX7_passUntilDone_40, ↓wX7_passUntilDone_43, ↓wX7_passUntilDone_44, ↓wX7_passUntilDone_45, ↓wX7_passUntilDone_48, ↓wX7_passUntilDone_51, ↓wX7_passUntilDone_52, ↓wX7_passUntilDone_55, zQi_def, zQa_def, zQv_def, nI00, nI10, nI11, nI01, true_or, or_true, false_or, or_false, eq_self, true_implies, false_implies, not_true_eq_false, not_false_eq_true, zc9, zc1, zc2, zc3, zc1000, nI_m9, nI_add, pk_mul, ix_nI, vpT, zk_zpi, zn_zpi, zr_zpi, zk_zpa, zn_zpa, zr_zpa, zsz_zpi, zsz_zpa, zi_zpa, zpi_pa, zpa_zpa, true_and, and_true, and_self, zk_WST, zn_WST, zsz_WST, zi_WST, zi_WST0, zr_WST5, zr_WSTN, zpa_WST, zpa_WST0, zpr_WST5, zup2_eq, zup2_ne, zup_eq, zup_ne, q22, q23, q24, q25, q26, q27, zAk26, wk, wr7, wr8, wr9, wr10, wr11, wk1, wk2, wk3, wk4, wk5, wn1, wn2, wn3, wn4, wn5, wRr, wRk, wR5, wRs, wRn, wSr, wSk, wKr, wKk, wTk]
    exact hq G p hP

