/-! A small machine over a heap of functions, and that the real one does what it says. -/
def zG : List Cond := lw_tbl.filter goodWord
def zw (ti : Nat) (w : Cond) : Bool := decide (lw_tbl[ti]? = some w) && goodWord w
theorem zw_spec {ti : Nat} {w : Cond} (h : zw ti w = true) : w ∈ zG := by
  unfold zw at h
  simp only [Bool.and_eq_true, decide_eq_true_eq] at h
  exact List.mem_filter.mpr ⟨List.mem_of_getElem? h.1, h.2⟩
abbrev zV : Type := Int32 ⊕ Nat
/-- a reference: 0 is null, n + 1 the address n -/
def zo (n : Nat) : Option Nat := if n = 0 then none else some (n - 1)
def zrf (n : Nat) : Value := va_rf (zo n)
def zval : zV → Value
  | .inl x => .int x
  | .inr n => zrf n
theorem zrf_0 : zrf 0 = .null := rfl
theorem zrf_pos {n : Nat} (h : n ≠ 0) : zrf n = .ref (n - 1) := by simp [zrf, zo, h, va_rf]
theorem zrf_cases (n : Nat) : (n = 0 ∧ zrf n = .null) ∨ (n ≠ 0 ∧ zrf n = .ref (n - 1)) := by
  by_cases h : n = 0
  · exact Or.inl ⟨h, by rw [h]; rfl⟩
  · exact Or.inr ⟨h, zrf_pos h⟩
theorem zval_cat (v : zV) : (zval v).category = 1 := by
  cases v with
  | inl x => rfl
  | inr n => rcases zrf_cases n with ⟨-, h⟩ | ⟨-, h⟩ <;> (show (zrf n).category = 1; rw [h]; rfl)
/-- a heap: size, kind of each address (0 none, c + 1 an object of class c, 20 + j an array of kind j), lengths, ints, refs (0 null) -/
abbrev zH : Type := Nat × (Nat → Nat) × (Nat → Nat) × (Nat → Nat → Int32) × (Nat → Nat → Nat)
def zsz (h : zH) : Nat := h.1
def zk (h : zH) : Nat → Nat := h.2.1
def zn (h : zH) : Nat → Nat := h.2.2.1
def zi (h : zH) : Nat → Nat → Int32 := h.2.2.2.1
def zr (h : zH) : Nat → Nat → Nat := h.2.2.2.2
def zup {α : Type} (f : Nat → α) (k : Nat) (v : α) : Nat → α := fun j => if j = k then v else f j
def zup2 {α : Type} (f : Nat → Nat → α) (a k : Nat) (v : α) : Nat → Nat → α := fun b j => if b = a ∧ j = k then v else f b j
def zpi (h : zH) (a k : Nat) (x : Int32) : zH := (zsz h, zk h, zn h, zup2 (zi h) a k x, zr h)
def zpr (h : zH) (a k : Nat) (x : Nat) : zH := (zsz h, zk h, zn h, zi h, zup2 (zr h) a k x)
def zpa (h : zH) (a : Nat) (f : Nat → Int32) : zH := (zsz h, zk h, zn h, zup (zi h) a f, zr h)
def znew (h : zH) (kind len : Nat) : zH := (zsz h + 1, zup (zk h) (zsz h) kind, zup (zn h) (zsz h) len, zup (zi h) (zsz h) (fun _ => 0), zup (zr h) (zsz h) (fun _ => 0))
-- classes: field types by class
def zty (ci : Nat) : Nat → FieldType := match ci with
  | 0 => tyX0 | 1 => tyX1 | 2 => tyX2 | 3 => tyX3 | 4 => tyX4 | 5 => tyX5 | 6 => tyX6 | 7 => tyX7 | _ => tyX8
def zisr (t : FieldType) : Bool := match t with
  | .object _ => true | .array _ => true | _ => false
def zfld (h : zH) (a ci k : Nat) : Value := if zisr (zty ci k) then zrf (zr h a k) else .int (zi h a k)
def zN (ci : Nat) : Nat := match ci with
  | 0 => 3 | 1 => 7 | 2 => 6 | 3 => 2 | 4 => 5 | 5 => 5 | 6 => 8 | 7 => 12 | _ => 4
def zC (ci : Nat) : String := match ci with
  | 0 => RX0 | 1 => RX1 | 2 => RX2 | 3 => RX3 | 4 => RX4 | 5 => RX5 | 6 => RX6 | 7 => RX7 | _ => RX8
def zT (ci : Nat) : u_T := match ci with
  | 0 => TX0 | 1 => TX1 | 2 => TX2 | 3 => TX3 | 4 => TX4 | 5 => TX5 | 6 => TX6 | 7 => TX7 | _ => TX8
theorem zlt9 {P : Nat → Prop} (h0 : P 0) (h1 : P 1) (h2 : P 2) (h3 : P 3) (h4 : P 4) (h5 : P 5) (h6 : P 6) (h7 : P 7) (h8 : P 8) : ∀ ci, ci < 9 → P ci := by
  intro ci h
  rcases (show ci = 0 ∨ ci = 1 ∨ ci = 2 ∨ ci = 3 ∨ ci = 4 ∨ ci = 5 ∨ ci = 6 ∨ ci = 7 ∨ ci = 8 by omega) with rfl | rfl | rfl | rfl | rfl | rfl | rfl | rfl | rfl <;> assumption
theorem zcl : ∀ ci, ci < 9 → vwCl[ci]? = some (zC ci, zT ci, zN ci) := zlt9 rfl rfl rfl rfl rfl rfl rfl rfl rfl
theorem ztyok : ∀ ci, ci < 9 → ∀ k, k < zN ci → parseFieldDescriptor (zT ci k).2.2.1 = some (zty ci k) := zlt9 tyX0_ok tyX1_ok tyX2_ok tyX3_ok tyX4_ok tyX5_ok tyX6_ok tyX7_ok tyX8_ok
theorem znm : ∀ ci, ci < 9 → ∀ a, a < zN ci → ∀ b, b < zN ci → a ≠ b → (zT ci a).2.1 ≠ (zT ci b).2.1 := zlt9 nmX0 nmX1 nmX2 nmX3 nmX4 nmX5 nmX6 nmX7 nmX8
set_option maxRecDepth 100000 in
theorem zws_in : ∀ ci, ci < 9 → ∀ w ∈ u_ws (zC ci) (zT ci) (zN ci), w ∈ zG := by
  have key : ∀ ci, ci < 9 → (u_ws (zC ci) (zT ci) (zN ci)).all (fun w => decide (w ∈ lw_tbl) && goodWord w) = true := zlt9 (by decide +kernel) (by decide +kernel) (by decide +kernel) (by decide +kernel) (by decide +kernel) (by decide +kernel) (by decide +kernel) (by decide +kernel) (by decide +kernel)
  intro ci h w hw
  have h1 := List.all_eq_true.mp (key ci h) w hw
  simp only [Bool.and_eq_true, decide_eq_true_eq] at h1
  exact List.mem_filter.mpr ⟨h1.1, h1.2⟩
theorem ztyb : ∀ ci, ci < 9 → ∀ k, k < zN ci → zisr (zty ci k) = false → zty ci k = .int := by
  refine zlt9 ?_ ?_ ?_ ?_ ?_ ?_ ?_ ?_ ?_ <;> decide
def zAC (j : Nat) : String := match j with
  | 2 => RX1 | 3 => RX2 | 4 => RX3 | 5 => RX4 | 6 => RX6 | _ => RX7
def zAk (j : Nat) : Nat := match j with
  | 2 => 1 | 3 => 2 | 4 => 3 | 5 => 4 | 6 => 6 | _ => 7
def zAty (j : Nat) : FieldType := match j with
  | 0 => .int | 1 => .char | j + 2 => .object (zAC (j + 2))
-- the setting
abbrev zE : Type := Launch × va_G × (Nat → ClassId) × Nat × (Nat × Nat × (Nat → Int32))
def zEl (E : zE) : Launch := E.1
def zED (E : zE) : va_G := E.2.1
def zEA (E : zE) : Nat → ClassId := E.2.2.1
def zElo (E : zE) : Nat := E.2.2.2.1
def zEb (E : zE) : Nat := E.2.2.2.2.1
def zEL (E : zE) : Nat := E.2.2.2.2.2.1
def zEx (E : zE) : Nat → Int32 := E.2.2.2.2.2.2
def zTys (E : zE) : List (ClassId × FieldType) := [(zEA E 0, zAty 0), (zEA E 1, zAty 1), (zEA E 2, zAty 2), (zEA E 3, zAty 3), (zEA E 4, zAty 4), (zEA E 5, zAty 5), (zEA E 6, zAty 6), (zEA E 7, zAty 7)]
theorem zTys_get (E : zE) {j : Nat} (h : j < 8) : (zTys E)[j]? = some (zEA E j, zAty j) := by
  rcases (show j = 0 ∨ j = 1 ∨ j = 2 ∨ j = 3 ∨ j = 4 ∨ j = 5 ∨ j = 6 ∨ j = 7 by omega) with rfl | rfl | rfl | rfl | rfl | rfl | rfl | rfl <;> rfl
def zNest : List (String × Nat × MethodName × String) := [(RX8, 11, yX3_init, RX8), (RX2, 21, yX4_init, RX8), (RX7, 37, yX1_init, RX8), (RX7, 38, yX6_init, RX8), (RX0, 17, yX3_init, RX8), (RX8, 25, yX5_init, RX8), (RX7, 81, yX8_within, RX8), (RX3, 26, yX8_within, RX8)]
def zSK (E : zE) (U : State) : Prop := va_X (zEb E) (zEL E) (zEx E) U U.heap ∧ zEb E < U.heap.size ∧ zEb E < zElo E
theorem zEb_not {E : zE} (h : zEb E < zElo E) : ¬ zElo E ≤ zEb E := Nat.not_le.mpr h
theorem zget_lt {H : Heap} {b : Nat} {c : Cell} (h : H[b]? = some c) : b < H.size := (Array.getElem?_eq_some_iff.mp h).1
def zKK (E : zE) (U : State) : Prop := va_K (zED E) vwCl (zTys E) U ∧ (∀ q ∈ zNest, va_Nw (.methodLinkNest q.1 q.2.1 q.2.2.1 q.2.2.2) U) ∧ (∀ j, 2 ≤ j → j < 8 → va_AO (zAC j) U) ∧ zSK E U
theorem zSK.warm {E : zE} {s U : State} (hW : s.WarmedH U.vm) (hH : ∀ q : Nat, q < s.heap.size → ¬ zElo E ≤ q → U.heap[q]? = s.heap[q]?) (h : zSK E s) : zSK E U := by
  obtain ⟨h1, h2, h3⟩ := h
  have h4 := hH _ h2 (zEb_not h3)
  have h5 : va_X (zEb E) (zEL E) (zEx E) U U.heap := (h1.kept h4).moved hW.alike
  obtain ⟨scr, h6, -⟩ := id h5
  exact ⟨h5, zget_lt h6, h3⟩
theorem zSK.same {E : zE} {s U : State} (he : s.vm = U.vm) (hh : s.heap = U.heap) (h : zSK E s) : zSK E U := by
  have ha : s.vm.Alike U.vm := by rw [he]; exact Vm.Alike.refl _
  obtain ⟨h1, h2, h3⟩ := h
  exact ⟨by rw [← hh]; exact h1.moved ha, by rw [← hh]; exact h2, h3⟩
theorem zKK.warm {E : zE} {s U : State} (hW : s.WarmedH U.vm) (hH : ∀ q : Nat, q < s.heap.size → ¬ zElo E ≤ q → U.heap[q]? = s.heap[q]?) (h : zKK E s) : zKK E U :=
  ⟨h.1.moved hW.alike, fun q hq => va_Nw.warmM hW (h.2.1 q hq), fun j h1 h2 => va_AO.moved hW.alike (h.2.2.1 j h1 h2), h.2.2.2.warm hW hH⟩
theorem zKK.same {E : zE} {s U : State} (he : s.vm = U.vm) (hh : s.heap = U.heap) (h : zKK E s) : zKK E U := by
  have ha : s.vm.Alike U.vm := by rw [he]; exact Vm.Alike.refl _
  exact ⟨h.1.moved ha, fun q hq => va_Nw.same rfl he (h.2.1 q hq), fun j h1 h2 => va_AO.moved ha (h.2.2.1 j h1 h2), h.2.2.2.same he hh⟩
def zarr (h : zH) (a j : Nat) : vp_A := if j < 2 then (zn h a, .inl (zi h a)) else (zn h a, .inr (.inr (.inr (.inr (fun i => zo (zr h a i))))))
def zcell (E : zE) (h : zH) (a : Nat) (H : Heap) : Prop :=
  (∀ ci, ci < 9 → zk h a = ci + 1 → t_OB (a - 1) ((zED E).1 ci) (zN ci) ((zED E).2 ci) H (zfld h a ci)) ∧
  (∀ j, j < 8 → zk h a = 20 + j → H[a - 1]? = some (vp_cell (zEA E j) (zarr h a j)))
def zREL (E : zE) (h : zH) (H : Heap) : Prop := H.size + 1 = zsz h ∧ zElo E < zsz h ∧ (∀ a, zk h a ≠ 0 → zElo E < a ∧ a < zsz h) ∧ ∀ a, zcell E h a H
-- a method
abbrev zM : Type := MethodName × ByteArray × Nat × Option FieldType × Room × Nat × (Nat × Nat × Nat × Nat × Nat)
def zMy (M : zM) : MethodName := M.1
def zMb (M : zM) : ByteArray := M.2.1
def zMl (M : zM) : Nat := M.2.2.1
def zMr (M : zM) : Option FieldType := M.2.2.2.1
def zMo (M : zM) : Room := M.2.2.2.2.1
def zMn (M : zM) : Nat := M.2.2.2.2.2.1
def zMk (M : zM) : Nat × Nat × Nat × Nat × Nat := M.2.2.2.2.2.2
def zws (M : zM) : List Cond := .code (zMy M) (zMb M) (zMl M) (zMr M) :: zG
def zPc (E : zE) (av : List zV) (h : zH) : Array Value → State → Prop := fun v U => v = (av.map zval).toArray ∧ zREL E h U.heap ∧ zKK E U
def zQc (E : zE) (Q : Option zV → zH → Prop) : Array Value → State → Outcome → State → Prop := fun _ st oc t => (∃ r h', oc = .returned (r.map zval) ∧ Q r h' ∧ zREL E h' t.heap) ∧ va_F (fun q => zElo E ≤ q) st t
def zMet (E : zE) (M : zM) (av : List zV) (h : zH) (Q : Option zV → zH → Prop) : Prop :=
  Met (zEl E) (zMy M) (zws M) (zMo M) (zPc E av h) (zQc E Q) (zMo M).cells (zMo M).slots (fun q => zElo E ≤ q)
def zMi (E : zE) (M : zM) (av : List zV) (h : zH) (Q : Int32 → zH → Prop) : Prop := zMet E M av h (fun r h' => ∃ x, r = some (.inl x) ∧ Q x h')
def zMa (E : zE) (M : zM) (av : List zV) (h : zH) (Q : Nat → zH → Prop) : Prop := zMet E M av h (fun r h' => ∃ x, r = some (.inr x) ∧ Q x h')
def zMv (E : zE) (M : zM) (av : List zV) (h : zH) (Q : zH → Prop) : Prop := zMet E M av h (fun r h' => r = none ∧ Q h')
theorem zMet.mono {E : zE} {M : zM} {av : List zV} {h : zH} {Q Q' : Option zV → zH → Prop} (hM : zMet E M av h Q) (hQ : ∀ r h', Q r h' → Q' r h') : zMet E M av h Q' := by
  intro p e ha hc hk s m args below hf happ hp hk2
  obtain ⟨t, o, a1, b1, b2, c1, c2⟩ := hM p e ha hc hk s m args below hf happ hp hk2
  obtain ⟨⟨r, h', d1, d2, d3⟩, d4⟩ := c1
  exact ⟨t, o, a1, b1, b2, ⟨⟨r, h', d1, hQ _ _ d2, d3⟩, d4⟩, c2⟩
theorem zMi.mono {E : zE} {M : zM} {av : List zV} {h : zH} {Q Q' : Int32 → zH → Prop} (hM : zMi E M av h Q) (hQ : ∀ r h', Q r h' → Q' r h') : zMi E M av h Q' := zMet.mono hM (fun _ h' ⟨x, e, q⟩ => ⟨x, e, hQ x h' q⟩)
theorem zMa.mono {E : zE} {M : zM} {av : List zV} {h : zH} {Q Q' : Nat → zH → Prop} (hM : zMa E M av h Q) (hQ : ∀ r h', Q r h' → Q' r h') : zMa E M av h Q' := zMet.mono hM (fun _ h' ⟨x, e, q⟩ => ⟨x, e, hQ x h' q⟩)
theorem zMv.mono {E : zE} {M : zM} {av : List zV} {h : zH} {Q Q' : zH → Prop} (hM : zMv E M av h Q) (hQ : ∀ h', Q h' → Q' h') : zMv E M av h Q' := zMet.mono hM (fun _ h' ⟨e, q⟩ => ⟨e, hQ h' q⟩)
theorem zPc_blind (E : zE) (av : List zV) (h : zH) : FrameBlind (zPc E av h) := fun _ _ _ _ ⟨a, b, c⟩ => ⟨a, b, c.same rfl rfl⟩
-- locals
def zLl : List (Option zV) → Nat → List (Nat × Value)
  | [], _ => []
  | none :: L, i => zLl L (i + 1)
  | some v :: L, i => (i, zval v) :: zLl L (i + 1)
theorem zLl_mem : ∀ (L : List (Option zV)) (i : Nat) (q : Nat × Value), q ∈ zLl L i ↔ ∃ t v, L[t]? = some (some v) ∧ q = (i + t, zval v)
  | [], i, q => by simp [zLl]
  | none :: L, i, q => by
    rw [zLl, zLl_mem L (i + 1) q]
    constructor
    · rintro ⟨t, v, h1, h2⟩
      exact ⟨t + 1, v, by simpa using h1, by rw [h2]; congr 1; omega⟩
    · rintro ⟨t, v, h1, h2⟩
      cases t with
      | zero => simp at h1
      | succ t => exact ⟨t, v, by simpa using h1, by rw [h2]; congr 1; omega⟩
  | some w :: L, i, q => by
    rw [zLl, List.mem_cons, zLl_mem L (i + 1) q]
    constructor
    · rintro (h | ⟨t, v, h1, h2⟩)
      · exact ⟨0, w, by simp, by rw [h]; rfl⟩
      · exact ⟨t + 1, v, by simpa using h1, by rw [h2]; congr 1; omega⟩
    · rintro ⟨t, v, h1, h2⟩
      cases t with
      | zero => simp at h1; subst h1; exact Or.inl h2
      | succ t => exact Or.inr ⟨t, v, by simpa using h1, by rw [h2]; congr 1; omega⟩
def zL (ls : Array Slot) (nL : Nat) (L : List (Option zV)) : Prop := lv_has ls nL (zLl L 0)
theorem zL.at {ls : Array Slot} {nL : Nat} {L : List (Option zV)} (h : zL ls nL L) {i : Nat} {v : zV} (hi : L[i]? = some (some v)) : ls[i]? = some (.val (zval v)) :=
  h.2.2 (i, zval v) ((zLl_mem L 0 _).mpr ⟨i, v, hi, by rw [Nat.zero_add]⟩)
theorem zL.set {ls' : Array Slot} {nL : Nat} {L : List (Option zV)} {i : Nat} {v : zV} (hi : i < L.length) (h : lv_has ls' nL ((i, zval v) :: (zLl L 0).filter (fun q => !(q.1 == i) && !(q.1 + 1 == i && q.2.category == 2)))) : zL ls' nL (L.set i (some v)) := by
  refine ⟨h.1, h.2.1, fun q hq => ?_⟩
  obtain ⟨t, w, h1, h2⟩ := (zLl_mem _ 0 _).mp hq
  rw [Nat.zero_add] at h2
  rw [List.getElem?_set] at h1
  by_cases hti : i = t
  · subst hti
    rw [if_pos rfl, if_pos hi] at h1
    cases h1
    exact h.2.2 q (by rw [h2]; exact List.mem_cons_self)
  · rw [if_neg hti] at h1
    refine h.2.2 q (List.mem_cons_of_mem _ (List.mem_filter.mpr ⟨(zLl_mem _ 0 _).mpr ⟨t, w, h1, by rw [Nat.zero_add]; exact h2⟩, ?_⟩))
    subst h2
    have hc := zval_cat w
    simp [hc]
    exact fun e => hti e.symm
theorem zL_entry (av : List zV) : ∀ i, lv_args i (av.map zval) = zLl (av.map some) i := by
  induction av with
  | nil => intro i; rfl
  | cons v av ih =>
    intro i
    show (i, zval v) :: lv_args (if (zval v).category = 2 then i + 2 else i + 1) (av.map zval) = (i, zval v) :: zLl (av.map some) (i + 1)
    rw [zval_cat, if_neg (by decide), ih]
theorem zLl_pad : ∀ (L : List (Option zV)) (n i : Nat), zLl (L ++ List.replicate n none) i = zLl L i
  | [], n, i => by
    induction n generalizing i with
    | zero => rfl
    | succ n ih => rw [List.nil_append] at ih ⊢; rw [List.replicate_succ]; exact ih (i + 1)
  | none :: L, n, i => zLl_pad L n (i + 1)
  | some v :: L, n, i => by rw [List.cons_append, zLl, zLl_pad L n (i + 1)]; rfl
theorem zlg_len (av : List zV) : (lg_sl (av.map zval)).length = av.length := by
  induction av with
  | nil => rfl
  | cons v av ih =>
    unfold lg_sl at ih ⊢
    rw [List.map_cons, List.flatMap_cons, List.length_append, ih, zval_cat, if_neg (by decide)]
    simp
    omega
