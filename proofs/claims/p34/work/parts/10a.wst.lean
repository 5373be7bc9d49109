/-! A world of the class: 41 objects in a row; its numbers G, its turns' places p. -/
def WST (h : zH) (w : Nat) (G : Nat → Nat → Int32) (p : Nat → Nat) : zH := (zsz h, zk h, zn h, fun a => if w ≤ a ∧ a < w + 41 then G (a - w) else zi h a, fun a k => if a = w + 5 ∧ k < 12 then w + (29 + p k) else zr h a k)
theorem zk_WST (h : zH) (w : Nat) (G : Nat → Nat → Int32) (p : Nat → Nat) : zk (WST h w G p) = zk h := rfl
theorem zn_WST (h : zH) (w : Nat) (G : Nat → Nat → Int32) (p : Nat → Nat) : zn (WST h w G p) = zn h := rfl
theorem zsz_WST (h : zH) (w : Nat) (G : Nat → Nat → Int32) (p : Nat → Nat) : zsz (WST h w G p) = zsz h := rfl
theorem zi_WST (h : zH) {w j : Nat} (G : Nat → Nat → Int32) (p : Nat → Nat) (hj : j < 41) : zi (WST h w G p) (w + j) = G j := by
  show (if w ≤ w + j ∧ w + j < w + 41 then G (w + j - w) else zi h (w + j)) = G j
  rw [if_pos (by omega), Nat.add_sub_cancel_left]
theorem zi_WST0 (h : zH) (w : Nat) (G : Nat → Nat → Int32) (p : Nat → Nat) : zi (WST h w G p) w = G 0 := zi_WST (j := 0) h G p (by omega)
theorem zi_WSTN (h : zH) {w a : Nat} (G : Nat → Nat → Int32) (p : Nat → Nat) (ha : a < w ∨ w + 41 ≤ a) : zi (WST h w G p) a = zi h a := if_neg (by omega)
theorem zr_WST5 (h : zH) {w k : Nat} (G : Nat → Nat → Int32) (p : Nat → Nat) (hk : k < 12) : zr (WST h w G p) (w + 5) k = w + (29 + p k) := if_pos ⟨rfl, hk⟩
theorem zr_WSTN (h : zH) {w a : Nat} (G : Nat → Nat → Int32) (p : Nat → Nat) (ha : a ≠ w + 5) : zr (WST h w G p) a = zr h a := funext fun k => if_neg (fun q => ha q.1)
theorem zr_WSTM (h : zH) {w a k : Nat} (G : Nat → Nat → Int32) (p : Nat → Nat) (hk : 12 ≤ k) : zr (WST h w G p) a k = zr h a k := if_neg (fun q => by omega)
theorem zup2_eq {α : Type} {f : Nat → Nat → α} {a k b j : Nat} {v : α} (h : b = a ∧ j = k) : zup2 f a k v b j = v := if_pos h
theorem zup2_ne {α : Type} {f : Nat → Nat → α} {a k b j : Nat} {v : α} (h : b ≠ a ∨ j ≠ k) : zup2 f a k v b j = f b j := if_neg (by rintro ⟨h1, h2⟩; rcases h with h | h <;> exact h (by assumption))
theorem zup2_neF {α : Type} {f : Nat → Nat → α} {a k b : Nat} {v : α} (h : b ≠ a) : zup2 f a k v b = f b := funext fun j => zup2_ne (Or.inl h)
theorem zup2_zup2 {α : Type} (f : Nat → Nat → α) (a k : Nat) (x y : α) : zup2 (zup2 f a k x) a k y = zup2 f a k y := by
  funext b j; unfold zup2; split <;> simp_all
theorem zup2_self {α : Type} (f : Nat → Nat → α) (a k : Nat) : zup2 f a k (f a k) = f := by
  funext b j; unfold zup2; split <;> simp_all
theorem zup2_def {α : Type} (f : Nat → Nat → α) (a k b j : Nat) (v : α) : zup2 f a k v b j = if b = a ∧ j = k then v else f b j := rfl
theorem zpi_WST (h : zH) {w j k : Nat} (G : Nat → Nat → Int32) (p : Nat → Nat) (x : Int32) (hj : j < 41) : zpi (WST h w G p) (w + j) k x = WST h w (zup2 G j k x) p := by
  have : zup2 (zi (WST h w G p)) (w + j) k x = zi (WST h w (zup2 G j k x) p) := by
    funext a i
    by_cases hb : w ≤ a ∧ a < w + 41
    · obtain ⟨b, rfl⟩ : ∃ b, a = w + b := ⟨a - w, by omega⟩
      rw [zi_WST _ _ _ (by omega)]
      unfold zup2
      rw [zi_WST _ _ _ (by omega)]
      by_cases hc : b = j
      · subst hc; simp
      · rw [if_neg (by omega), if_neg (by omega)]
    · rw [zup2_ne (by omega), zi_WSTN _ _ _ (by omega), zi_WSTN _ _ _ (by omega)]
  unfold zpi
  rw [this]; rfl
theorem zpi_WST0 (h : zH) {w k : Nat} (G : Nat → Nat → Int32) (p : Nat → Nat) (x : Int32) : zpi (WST h w G p) w k x = WST h w (zup2 G 0 k x) p := zpi_WST (j := 0) h G p x (by omega)
theorem zpr_WST5 (h : zH) {w k q : Nat} (G : Nat → Nat → Int32) (p : Nat → Nat) (hk : k < 12) : zpr (WST h w G p) (w + 5) k (w + (29 + q)) = WST h w G (zup p k q) := by
  have : zup2 (zr (WST h w G p)) (w + 5) k (w + (29 + q)) = zr (WST h w G (zup p k q)) := by
    funext a i
    by_cases hb : a = w + 5 ∧ i < 12
    · obtain ⟨rfl, hi⟩ := hb
      rw [zr_WST5 _ _ _ hi]
      by_cases hc : i = k
      · rw [zup2_eq ⟨rfl, hc⟩, zup_eq hc]
      · rw [zup2_ne (Or.inr hc), zup_ne hc, zr_WST5 _ _ _ hi]
    · rw [zup2_ne (by omega)]
      show (if a = w + 5 ∧ i < 12 then _ else zr h a i) = (if a = w + 5 ∧ i < 12 then _ else zr h a i)
      rw [if_neg hb, if_neg hb]
  unfold zpr
  rw [this]; rfl
theorem zpa_WST (h : zH) {w j : Nat} (G : Nat → Nat → Int32) (p : Nat → Nat) (f : Nat → Int32) (hj : j < 41) : zpa (WST h w G p) (w + j) f = WST h w (zup G j f) p := by
  have : zup (zi (WST h w G p)) (w + j) f = zi (WST h w (zup G j f) p) := by
    funext a
    by_cases hb : w ≤ a ∧ a < w + 41
    · obtain ⟨b, rfl⟩ : ∃ b, a = w + b := ⟨a - w, by omega⟩
      rw [zi_WST _ _ _ (by omega)]
      by_cases hc : b = j
      · rw [zup_eq (by omega), zup_eq hc]
      · rw [zup_ne (by omega), zup_ne hc, zi_WST _ _ _ (by omega)]
    · rw [zup_ne (by omega), zi_WSTN _ _ _ (by omega), zi_WSTN _ _ _ (by omega)]
  unfold zpa
  rw [this]; rfl
theorem WST_WST (h : zH) (w : Nat) (G G' : Nat → Nat → Int32) (p p' : Nat → Nat) : WST (WST h w G p) w G' p' = WST h w G' p' := by
  have h1 : zi (WST (WST h w G p) w G' p') = zi (WST h w G' p') := by
    funext a
    by_cases hb : w ≤ a ∧ a < w + 41
    · obtain ⟨b, rfl⟩ : ∃ b, a = w + b := ⟨a - w, by omega⟩
      rw [zi_WST _ _ _ (by omega), zi_WST _ _ _ (by omega)]
    · rw [zi_WSTN _ _ _ (by omega), zi_WSTN _ _ _ (by omega), zi_WSTN _ _ _ (by omega)]
  have h2 : zr (WST (WST h w G p) w G' p') = zr (WST h w G' p') := by
    funext a i
    by_cases hb : a = w + 5 ∧ i < 12
    · obtain ⟨rfl, hi⟩ := hb
      rw [zr_WST5 _ _ _ hi, zr_WST5 _ _ _ hi]
    · show (if a = w + 5 ∧ i < 12 then _ else zr (WST h w G p) a i) = (if a = w + 5 ∧ i < 12 then _ else zr h a i)
      rw [if_neg hb, if_neg hb]
      exact if_neg hb
  show (_, _, _, zi (WST (WST h w G p) w G' p'), zr (WST (WST h w G p) w G' p')) = _
  rw [h1, h2]; rfl
theorem WST_self {h : zH} {w : Nat} {p : Nat → Nat} (hp : ∀ k, k < 12 → zr h (w + 5) k = w + (29 + p k)) : WST h w (fun j => zi h (w + j)) p = h := by
  have h1 : zi (WST h w (fun j => zi h (w + j)) p) = zi h := by
    funext a
    by_cases hb : w ≤ a ∧ a < w + 41
    · obtain ⟨b, rfl⟩ : ∃ b, a = w + b := ⟨a - w, by omega⟩
      rw [zi_WST _ _ _ (by omega)]
    · rw [zi_WSTN _ _ _ (by omega)]
  have h2 : zr (WST h w (fun j => zi h (w + j)) p) = zr h := by
    funext a i
    by_cases hb : a = w + 5 ∧ i < 12
    · obtain ⟨rfl, hi⟩ := hb
      rw [zr_WST5 _ _ _ hi, hp i hi]
    · exact if_neg hb
  show (_, _, _, zi (WST h w (fun j => zi h (w + j)) p), zr (WST h w (fun j => zi h (w + j)) p)) = _
  rw [h1, h2]; rfl
/-- a world's 41 objects: kinds, lengths, references -/
def WS (h : zH) (w : Nat) : Prop := zk h w = 8 ∧ (zr h w 7 = w + 1 ∧ zr h w 8 = w + 2 ∧ zr h w 9 = w + 3 ∧ zr h w 10 = w + 4 ∧ zr h w 11 = w + 5) ∧ (zk h (w + 1) = 20 ∧ zk h (w + 2) = 20 ∧ zk h (w + 3) = 23 ∧ zk h (w + 4) = 22 ∧ zk h (w + 5) = 26) ∧ (zn h (w + 1) = 14 ∧ zn h (w + 2) = 200 ∧ zn h (w + 3) = 3 ∧ zn h (w + 4) = 8 ∧ zn h (w + 5) = 12) ∧
  ((∀ i, i < 3 → zr h (w + 3) i = w + (6 + 5 * i)) ∧ (∀ i, i < 3 → zk h (w + (6 + 5 * i)) = 3) ∧ (∀ i, i < 3 → zr h (w + (6 + 5 * i)) 5 = w + (7 + 5 * i)) ∧ (∀ i, i < 3 → zk h (w + (7 + 5 * i)) = 25) ∧ (∀ i, i < 3 → zn h (w + (7 + 5 * i)) = 3)) ∧
  ((∀ i s, i < 3 → s < 3 → zr h (w + (7 + 5 * i)) s = w + (8 + 5 * i + s)) ∧ (∀ i s, i < 3 → s < 3 → zk h (w + (8 + 5 * i + s)) = 5)) ∧
  ((∀ k, k < 8 → zr h (w + 4) k = w + (21 + k)) ∧ (∀ k, k < 8 → zk h (w + (21 + k)) = 2)) ∧ (∀ t, t < 12 → zk h (w + (29 + t)) = 7)
theorem q22 : (22 ≤ 22 ∧ 22 < 28) = True := eq_true (by decide)
theorem q23 : (22 ≤ 23 ∧ 23 < 28) = True := eq_true (by decide)
theorem q24 : (22 ≤ 24 ∧ 24 < 28) = True := eq_true (by decide)
theorem q25 : (22 ≤ 25 ∧ 25 < 28) = True := eq_true (by decide)
theorem q26 : (22 ≤ 26 ∧ 26 < 28) = True := eq_true (by decide)
theorem q27 : (22 ≤ 27 ∧ 27 < 28) = True := eq_true (by decide)
theorem zAk26 : zAk (26 - 20) + 1 = 7 := rfl
theorem zAk27 : zAk (27 - 20) + 1 = 8 := rfl
theorem zAk22 : zAk (22 - 20) + 1 = 2 := rfl
theorem zAk23 : zAk (23 - 20) + 1 = 3 := rfl
theorem zAk24 : zAk (24 - 20) + 1 = 4 := rfl
theorem zAk25 : zAk (25 - 20) + 1 = 5 := rfl
/-- beyond the reference's own: what the class needs of a row -/
def XI (r : Nat → Int32) (nr nk n td : Nat) : Prop :=
  (∀ k, k < 14 → 0 ≤ r (7 + k)) ∧ (∀ k, k < 200 → 0 ≤ r (21 + k)) ∧
  (∀ i, i < nr → ∃ q, q ≤ 3 ∧ r (221 + 20 * i + 2) = nI q ∧ kO r (nI i) nk ≤ q) ∧
  (∀ i, i < nr → ∀ s, s < 3 → 0 ≤ r (221 + 20 * i + 5 + 5 * s + 1)) ∧
  (∀ k, k < nk → (∃ q, q < 3 ∧ r (281 + 7 * k + 0) = nI q) ∧ (∃ x, x ≤ td ∧ r (281 + 7 * k + 3) = nI x) ∧ (∃ y, y ≤ 6 * td ∧ r (281 + 7 * k + 2) = nI y)) ∧
  (∀ t, t < n → (∃ d, td ≤ d ∧ d < 200 ∧ r (337 + 8 * t + 2) = nI d) ∧ (r (337 + 8 * t + 0) = nI 0 → ∃ k, k < nk ∧ r (337 + 8 * t + 4) = nI k))
def CA (G : Nat → Nat → Int32) (r : Nat → Int32) : Prop := G 0 0 = r 0 ∧ G 0 1 = r 4 ∧ G 0 2 = r 5 ∧ G 0 3 = r 6 ∧ G 0 4 = r 1 ∧ G 0 5 = r 2 ∧ G 0 6 = r 3
def CB (G : Nat → Nat → Int32) (r : Nat → Int32) : Prop := (∀ k, k < 14 → G 1 k = r (7 + k)) ∧ (∀ k, k < 200 → G 2 k = r (21 + k))
def CR3 (G : Nat → Nat → Int32) (r : Nat → Int32) (nr : Nat) : Prop := ∀ i, i < nr → ∀ f, f < 3 → G (6 + 5 * i) f = r (221 + 20 * i + f)
def CRd (G : Nat → Nat → Int32) (r : Nat → Int32) (nr : Nat) : Prop := ∀ i, i < nr → G (6 + 5 * i) 3 = r (221 + 20 * i + 3)
def CSt (G : Nat → Nat → Int32) (r : Nat → Int32) (nr : Nat) : Prop := ∀ i, i < nr → ∀ s, s < 3 → ∀ f, f < 5 → G (8 + 5 * i + s) f = r (221 + 20 * i + 5 + 5 * s + f)
def CFr (G : Nat → Nat → Int32) (nr : Nat) : Prop := ∀ i, nr ≤ i → i < 3 → G (6 + 5 * i) 3 = 0 ∧ ∀ s, s < 3 → ∀ f, f < 5 → G (8 + 5 * i + s) f = 0
def CLd (G : Nat → Nat → Int32) (td : Nat) : Prop := ∀ i, i < 3 → G (6 + 5 * i) 4 = -9 ∨ ∃ d, d < td ∧ G (6 + 5 * i) 4 = nI d
def CK (G : Nat → Nat → Int32) (r : Nat → Int32) (nk : Nat) : Prop := ∀ k, k < nk → ∀ f, f < 7 → G (21 + k) f = r (281 + 7 * k + f)
def CKf (G : Nat → Nat → Int32) (nk : Nat) : Prop := ∀ k, nk ≤ k → k < 8 → G (21 + k) 1 = -9 ∧ ∀ f, 2 ≤ f → f < 7 → G (21 + k) f = 0
def CTu (G : Nat → Nat → Int32) (p : Nat → Nat) (r : Nat → Int32) (n : Nat) : Prop := ∀ t, t < n → (∀ f, f < 7 → G (29 + p t) f = r (337 + 8 * t + f)) ∧ G (29 + p t) 7 = -9
def PM (p : Nat → Nat) : Prop := (∀ t, t < 12 → p t < 12) ∧ (∀ t u, t < 12 → u < 12 → p t = p u → t = u)
/-- the world's numbers are the row's -/
def CR (G : Nat → Nat → Int32) (p : Nat → Nat) (r : Nat → Int32) (nr nk n td : Nat) : Prop := RI r nr nk n td ∧ XI r nr nk n td ∧ CA G r ∧ CB G r ∧ (CR3 G r nr ∧ CRd G r nr ∧ CSt G r nr ∧ CFr G nr ∧ CLd G td) ∧ (CK G r nk ∧ CKf G nk) ∧ CTu G p r n ∧ PM p
theorem zpa_WST0 (h : zH) {w : Nat} (G : Nat → Nat → Int32) (p : Nat → Nat) (f : Nat → Int32) : zpa (WST h w G p) w f = WST h w (zup G 0 f) p := zpa_WST (j := 0) h G p f (by omega)

