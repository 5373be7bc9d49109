/-! Longs: frames that hold some. X: the longs at the stack's bottom, the locals that hold longs. -/
abbrev zX : Type := List Int64 × List (Nat × Int64)
def zXs (τ : List Int64) : List Value := τ.map (fun x => Value.long x)
def zXl (Λ : List (Nat × Int64)) : List (Nat × Value) := Λ.map (fun q => (q.1, Value.long q.2))
def zLX (ls : Array Slot) (nL : Nat) (L : List (Option zV)) (Λ : List (Nat × Int64)) : Prop := lv_has ls nL (zLl L 0 ++ zXl Λ)
theorem zXl_mem {Λ : List (Nat × Int64)} {q : Nat × Value} : q ∈ zXl Λ ↔ ∃ r, r ∈ Λ ∧ q = (r.1, .long r.2) := by
  unfold zXl
  rw [List.mem_map]
  exact ⟨fun ⟨r, h1, h2⟩ => ⟨r, h1, h2.symm⟩, fun ⟨r, h1, h2⟩ => ⟨r, h1, h2.symm⟩⟩
theorem zLX.toL {ls : Array Slot} {nL : Nat} {L : List (Option zV)} {Λ : List (Nat × Int64)} (h : zLX ls nL L Λ) : zL ls nL L := ⟨h.1, h.2.1, fun q hq => h.2.2 q (List.mem_append_left _ hq)⟩
theorem zLX.drop {ls : Array Slot} {nL : Nat} {L : List (Option zV)} {Λ Λ' : List (Nat × Int64)} (h : zLX ls nL L Λ) (hs : ∀ q ∈ Λ', q ∈ Λ) : zLX ls nL L Λ' := ⟨h.1, h.2.1, fun q hq => by
  rcases List.mem_append.mp hq with h1 | h1
  · exact h.2.2 q (List.mem_append_left _ h1)
  · obtain ⟨r, h2, h3⟩ := zXl_mem.mp h1
    exact h.2.2 q (List.mem_append_right _ (zXl_mem.mpr ⟨r, hs r h2, h3⟩))⟩
theorem zLX.at {ls : Array Slot} {nL : Nat} {L : List (Option zV)} {Λ : List (Nat × Int64)} (h : zLX ls nL L Λ) {i : Nat} {x : Int64} (hi : (i, x) ∈ Λ) : ls[i]? = some (.val (.long x)) :=
  h.2.2 (i, .long x) (List.mem_append_right _ (zXl_mem.mpr ⟨(i, x), hi, rfl⟩))
theorem zLX.set {ls' : Array Slot} {nL : Nat} {L : List (Option zV)} {Λ : List (Nat × Int64)} {i : Nat} {v : zV} (hi : i < L.length) (hΛ : ∀ q ∈ Λ, q.1 ≠ i ∧ q.1 + 1 ≠ i) (h : lv_has ls' nL ((i, zval v) :: (zLl L 0 ++ zXl Λ).filter (fun q => !(q.1 == i) && !(q.1 + 1 == i && q.2.category == 2)))) : zLX ls' nL (L.set i (some v)) Λ := by
  have h1 : zL ls' nL (L.set i (some v)) := zL.set hi ⟨h.1, h.2.1, fun q hq => h.2.2 q (by
    rcases List.mem_cons.mp hq with h2 | h2
    · exact List.mem_cons.mpr (Or.inl h2)
    · refine List.mem_cons_of_mem _ ?_
      rw [List.filter_append]
      exact List.mem_append_left _ h2)⟩
  refine ⟨h.1, h.2.1, fun q hq => ?_⟩
  rcases List.mem_append.mp hq with h2 | h2
  · exact h1.2.2 q h2
  · obtain ⟨r, h3, rfl⟩ := zXl_mem.mp h2
    obtain ⟨h4, h5⟩ := hΛ r h3
    refine h.2.2 _ (List.mem_cons_of_mem _ (List.mem_filter.mpr ⟨List.mem_append_right _ h2, ?_⟩))
    simp [h4, h5]
theorem zLX.setl {ls' : Array Slot} {nL : Nat} {L : List (Option zV)} {Λ Λ' : List (Nat × Int64)} {i : Nat} {x : Int64} (hΛ : ∀ q ∈ Λ', q = (i, x) ∨ (q ∈ Λ ∧ q.1 ≠ i ∧ q.1 ≠ i + 1 ∧ q.1 + 1 ≠ i)) (h : lv_has ls' nL ((i, .long x) :: (zLl L 0 ++ zXl Λ).filter (fun q => !(q.1 == i) && (!(q.1 == i + 1) && !(q.1 + 1 == i && q.2.category == 2))))) : zLX ls' nL ((L.set i none).set (i + 1) none) Λ' := by
  refine ⟨h.1, h.2.1, fun q hq => ?_⟩
  rcases List.mem_append.mp hq with h2 | h2
  · obtain ⟨t, v, h3, h4⟩ := (zLl_mem _ 0 _).mp h2
    rw [Nat.zero_add] at h4
    rw [List.getElem?_set] at h3
    split at h3
    · split at h3 <;> cases h3
    rename_i e1
    rw [List.getElem?_set] at h3
    split at h3
    · split at h3 <;> cases h3
    rename_i e2
    refine h.2.2 q (List.mem_cons_of_mem _ (List.mem_filter.mpr ⟨List.mem_append_left _ ((zLl_mem _ 0 _).mpr ⟨t, v, h3, by rw [Nat.zero_add]; exact h4⟩), ?_⟩))
    subst h4
    have hc := zval_cat v
    simp [hc]
    exact ⟨fun e => e2 e.symm, fun e => e1 e.symm⟩
  · obtain ⟨r, h3, rfl⟩ := zXl_mem.mp h2
    rcases hΛ r h3 with h4 | ⟨h4, h5, h6, h7⟩
    · rw [h4]; exact h.2.2 _ List.mem_cons_self
    · refine h.2.2 _ (List.mem_cons_of_mem _ (List.mem_filter.mpr ⟨List.mem_append_right _ (zXl_mem.mpr ⟨r, h4, rfl⟩), ?_⟩))
      simp [h5, h6, h7]
def zQcL (E : zE) (Q : Int64 → zH → Prop) : Array Value → State → Outcome → State → Prop := fun _ st oc t => (∃ x h', oc = .returned (some (.long x)) ∧ Q x h' ∧ zREL E h' t.heap) ∧ va_F (fun q => zElo E ≤ q) st t
def zQcX (E : zE) (Q : Option zV → zH → Prop) (QL : Int64 → zH → Prop) : Array Value → State → Outcome → State → Prop := fun a st oc t => zQc E Q a st oc t ∨ zQcL E QL a st oc t
def zMetL (E : zE) (M : zM) (av : List zV) (h : zH) (Q : Int64 → zH → Prop) : Prop :=
  Met (zEl E) (zMy M) (zws M) (zMo M) (zPc E av h) (zQcL E Q) (zMo M).cells (zMo M).slots (fun q => zElo E ≤ q)
def zJX (E : zE) (M : zM) (Q : Option zV → zH → Prop) (QL : Int64 → zH → Prop) (X : zX) (pc : Nat) (L : List (Option zV)) (st : List zV) (h : zH) (k n : Nat) : Prop :=
  L.length = zMl M → k ≤ (zMo M).cells → n ≤ (zMo M).slots → ∀ (p : Program) (e : Env) (s : State) (m : MethodId) (args : Array Value) (below : List Frame) (meth : Method) (c : Code), zFix E M p s m meth args c → ∀ (H : Heap) (locs : List Loc) (ls : Array Slot), zREL E h H → va_S (fun q => zElo E ≤ q) s.heap H locs → zLX ls (zMl M) L X.2 →
    zWV E M (zQcX E Q QL) p e s m args below meth c H locs k n pc ls (st.map zval ++ zXs X.1)
theorem zJX.drop {E : zE} {M : zM} {Q : Option zV → zH → Prop} {QL : Int64 → zH → Prop} {τ : List Int64} {Λ Λ' : List (Nat × Int64)} {pc : Nat} {L : List (Option zV)} {st : List zV} {h : zH} {k n : Nat} (hJ : zJX E M Q QL (τ, Λ') pc L st h k n) (hs : ∀ q ∈ Λ', q ∈ Λ) : zJX E M Q QL (τ, Λ) pc L st h k n :=
  fun h1 h2 h3 p e s m args below meth c F H locs ls hR hS hl => hJ h1 h2 h3 p e s m args below meth c F H locs ls hR hS (hl.drop hs)
section ZXC
variable {E : zE} {M : zM} {P : Array Value → State → Outcome → State → Prop} {p : Program} {e : Env} {s : State} {m : MethodId} {args : Array Value} {below : List Frame} {meth : Method} {c : Code} {H : Heap} {locs : List Loc} {k n pc : Nat} {ls : Array Slot} {h : zH}
theorem zXs_sum (τ : List Int64) : ((zXs τ).map fun v => v.category).sum = 2 * τ.length := by
  induction τ with
  | nil => rfl
  | cons x τ ih =>
    unfold zXs at ih ⊢
    rw [List.map_cons, List.map_cons, List.sum_cons, ih, List.length_cons]
    show 2 + _ = _
    omega
theorem zs_catX (rest : List zV) (τ : List Int64) : ((rest.map zval ++ zXs τ).map fun v => v.category).sum = rest.length + 2 * τ.length := by
  rw [List.map_append, List.sum_append, zs_cat, zXs_sum]
theorem zs_callVX {M' : zM} {av rest : List zV} {τ : List Int64} {b idx : Nat} {lk : zLk} {Qa : Option zV → zH → Prop} (F : zFix E M p s m meth args c) (hR : zREL E h H) (hS : va_S (fun q => zElo E ≤ q) s.heap H locs) (hsz : ls.size = zMl M) (hB : zlkB M M' idx lk = true) (hkind : (zMk M').1 = 1) (hnest : lk.2.1 = 0)
    (hb0 : b ≠ 0) (hrecv : ∃ cell : Cell, H[b - 1]? = some cell ∧ cell.vm.isStatics = false ∧ s.vm.findClass (zMy M').cls = some cell.cls) (hn : av.length = zMn M') (hrest : rest.length + 2 * τ.length ≤ 8) (hroom : k + (zMo M').cells ≤ (zMo M).cells ∧ n + (zMo M').slots ≤ (zMo M).slots) (hM : zMet E M' (.inr b :: av) h Qa) (hdg : decode (zMb M) pc = .ok (.invokevirtual idx, 3))
    (kk : ∀ (r : Option zV) (h' : zH) (H1 : Heap) (locs1 : List Loc), Qa r h' → zREL E h' H1 → va_S (fun q => zElo E ≤ q) s.heap H1 locs1 → zWV E M P p e s m args below meth c H1 locs1 (k + (zMo M').cells) (n + (zMo M').slots) (pc + 3) ls ((r.map zval).toList ++ (rest.map zval ++ zXs τ))) :
    zWV E M P p e s m args below meth c H locs k n pc ls ((av.reverse ++ .inr b :: rest).map zval ++ zXs τ) := by
  obtain ⟨h1, h2, h3⟩ := zlkB_spec hB
  obtain ⟨w1, w2, w3, -, w5, -, w7⟩ := zMB_spec h1
  obtain ⟨i1, i2⟩ := w5 hkind
  have hts := F.2.2.2.2.2.1
  have e1 : zval (.inr b) = .ref (b - 1) := zrf_pos hb0
  have hpre := zs_pre F hR hS (.inr b :: av)
  rw [List.map_cons, e1] at hpre
  rcases h3 with ⟨-, h3⟩ | h3
  · refine zs_run (va_runV (As := av.map zval) (b := b - 1) (C := (zMy M').cls) (zs_fix F) hM ⟨zs_callB F h1 h2 (hts _ h3), hts _ i1, hts _ i2⟩ ⟨hpre.1, hrecv, hpre.2⟩ rfl (by rw [List.length_map]; exact hn) hsz (rest := rest.map zval ++ zXs τ) ?_ (lv_room (by rw [zs_catX]; exact hrest)) hdg hroom) hS kk
    show _ = _
    rw [List.map_append, List.map_reverse, List.map_cons, e1, List.append_assoc, List.cons_append]
  · exact absurd hnest h3.1
theorem zs_callIX {M' : zM} {av rest : List zV} {τ : List Int64} {b idx ci : Nat} {lk : zLk} {Qa : Option zV → zH → Prop} (F : zFix E M p s m meth args c) (hR : zREL E h H) (hS : va_S (fun q => zElo E ≤ q) s.heap H locs) (hsz : ls.size = zMl M) (hB : zlkB M M' idx lk = true) (hkind : (zMk M').1 = 2)
    (hb : zk h b = ci + 1) (hn : av.length = zMn M') (hrest : rest.length + 2 * τ.length ≤ 8) (hroom : k + (zMo M').cells ≤ (zMo M).cells ∧ n + (zMo M').slots ≤ (zMo M).slots) (hM : zMet E M' (.inr b :: av) h Qa) (hdg : decode (zMb M) pc = .ok (.invokespecial idx, 3))
    (kk : ∀ (r : Option zV) (h' : zH) (H1 : Heap) (locs1 : List Loc), Qa r h' → zREL E h' H1 → va_S (fun q => zElo E ≤ q) s.heap H1 locs1 → zWV E M P p e s m args below meth c H1 locs1 (k + (zMo M').cells) (n + (zMo M').slots) (pc + 3) ls ((r.map zval).toList ++ (rest.map zval ++ zXs τ))) :
    zWV E M P p e s m args below meth c H locs k n pc ls ((av.reverse ++ .inr b :: rest).map zval ++ zXs τ) := by
  obtain ⟨h1, h2, h3⟩ := zlkB_spec hB
  obtain ⟨hb0, -⟩ := hR.pos (a := b) (by omega)
  obtain ⟨w1, w2, w3, -, -, w6, w7⟩ := zMB_spec h1
  obtain ⟨i1, i2, i3⟩ := w6 hkind
  have hts := F.2.2.2.2.2.1
  have e1 : zval (.inr b) = .ref (b - 1) := zrf_pos hb0
  have hpre := zs_pre F hR hS (.inr b :: av)
  rw [List.map_cons, e1] at hpre
  have hst : (av.reverse ++ .inr b :: rest).map zval ++ zXs τ = (av.map zval).reverse ++ .ref (b - 1) :: (rest.map zval ++ zXs τ) := by rw [List.map_append, List.map_reverse, List.map_cons, e1, List.append_assoc, List.cons_append]
  rcases h3 with ⟨-, h3⟩ | ⟨-, h3⟩
  · exact zs_run (va_runI (As := av.map zval) (b := b - 1) (zs_fix F) hM ⟨by rw [← i2]; exact zs_callB F h1 h2 (hts _ h3), i3, hts _ i1⟩ hpre rfl (by rw [List.length_map]; exact hn) hsz (rest := rest.map zval ++ zXs τ) hst (lv_room (by rw [zs_catX]; exact hrest)) hdg hroom) hS kk
  · exact zs_run (va_runIN (As := av.map zval) (b := b - 1) (host := RX8) (zs_fix F) hM ⟨by rw [← i2]; exact zs_CN F h1 h2 h3, i3, hts _ i1⟩ hpre rfl (by rw [List.length_map]; exact hn) hsz (rest := rest.map zval ++ zXs τ) hst (lv_room (by rw [zs_catX]; exact hrest)) hdg hroom) hS kk
theorem zs_callSX {M' : zM} {av rest : List zV} {τ : List Int64} {idx : Nat} {lk : zLk} {Qa : Option zV → zH → Prop} (F : zFix E M p s m meth args c) (hR : zREL E h H) (hS : va_S (fun q => zElo E ≤ q) s.heap H locs) (hsz : ls.size = zMl M) (hB : zlkB M M' idx lk = true) (hkind : (zMk M').1 = 0)
    (hn : av.length = zMn M') (hrest : rest.length + 2 * τ.length ≤ 8) (hroom : k + (zMo M').cells ≤ (zMo M).cells ∧ n + (zMo M').slots ≤ (zMo M).slots) (hM : zMet E M' av h Qa) (hdg : decode (zMb M) pc = .ok (.invokestatic idx, 3))
    (kk : ∀ (r : Option zV) (h' : zH) (H1 : Heap) (locs1 : List Loc), Qa r h' → zREL E h' H1 → va_S (fun q => zElo E ≤ q) s.heap H1 locs1 → zWV E M P p e s m args below meth c H1 locs1 (k + (zMo M').cells) (n + (zMo M').slots) (pc + 3) ls ((r.map zval).toList ++ (rest.map zval ++ zXs τ))) :
    zWV E M P p e s m args below meth c H locs k n pc ls ((av.reverse ++ rest).map zval ++ zXs τ) := by
  obtain ⟨h1, h2, h3⟩ := zlkB_spec hB
  obtain ⟨w1, w2, w3, w4, -, -, w7⟩ := zMB_spec h1
  have i1 := w4 hkind
  have hts := F.2.2.2.2.2.1
  have hpre := zs_pre F hR hS av
  have hst : (av.reverse ++ rest).map zval ++ zXs τ = (av.map zval).reverse ++ (rest.map zval ++ zXs τ) := by rw [List.map_append, List.map_reverse, List.append_assoc]
  rcases h3 with ⟨-, h3⟩ | ⟨-, h3⟩
  · exact zs_run (va_runS (As := av.map zval) (zs_fix F) hM ⟨zs_callB F h1 h2 (hts _ h3), hts _ i1⟩ hpre rfl (by rw [List.length_map]; exact hn) hsz (rest := rest.map zval ++ zXs τ) hst (lv_room (by rw [zs_catX]; exact hrest)) hdg hroom) hS kk
  · exact zs_run (va_runSN (As := av.map zval) (host := RX8) (zs_fix F) hM ⟨zs_CN F h1 h2 h3, hts _ i1, trivial⟩ hpre rfl (by rw [List.length_map]; exact hn) hsz (rest := rest.map zval ++ zXs τ) hst (lv_room (by rw [zs_catX]; exact hrest)) hdg hroom) hS kk
theorem zs_runL {Qa : Int64 → zH → Prop} {st0 rest : List Value} {mc ms : Nat} {a : Array Value} {Qf : State → Prop} {R : Room} {l : Launch}
    (hr : va_Run p l e R s m args below meth c H locs k n mc ms (F0 m pc ls st0) rest (zQcL E Qa a) (fun q => zElo E ≤ q)) (hS : va_S (fun q => zElo E ≤ q) s.heap H locs)
    (kk : ∀ (x : Int64) (h' : zH) (H1 : Heap) (locs1 : List Loc), Qa x h' → zREL E h' H1 → va_S (fun q => zElo E ≤ q) s.heap H1 locs1 → W p l e R s m args below meth c H1 locs1 (k + mc) (n + ms) Qf (F0 m (pc + 3) ls (.long x :: rest))) : W p l e R s m args below meth c H locs k n Qf (F0 m pc ls st0) := by
  intro T hT X
  obtain ⟨v, st₀, t, T', L, h0, X', hL, e1, e2, ⟨⟨x, h', hv, hq, hR⟩, hz, hk⟩, st⟩ := hr T hT X
  cases hv
  rw [h0] at hz hk
  obtain ⟨t2, a1, b1⟩ := kk x h' T'.heap (locs ++ L) hq (by rw [e1]; exact hR)
    ⟨Nat.le_trans hS.1 (by rw [e1]; exact hz), fun q h1 h2 => by rw [e1, hk q (Nat.lt_of_lt_of_le h1 hS.1) h2]; exact hS.2.1 q h1 h2, fun q hq => by
      rcases List.mem_append.mp hq with h | h
      · exact hS.2.2 q h
      · exact hL q h⟩ T' rfl X'
  exact ⟨t2, st t2 a1, b1⟩
theorem zs_callSL {M' : zM} {av : List zV} {idx : Nat} {lk : zLk} {Qa : Int64 → zH → Prop} (F : zFix E M p s m meth args c) (hR : zREL E h H) (hS : va_S (fun q => zElo E ≤ q) s.heap H locs) (hsz : ls.size = zMl M) (hB : zlkB M M' idx lk = true) (hkind : (zMk M').1 = 0)
    (hn : av.length = zMn M') (hroom : k + (zMo M').cells ≤ (zMo M).cells ∧ n + (zMo M').slots ≤ (zMo M).slots) (hM : zMetL E M' av h Qa) (hdg : decode (zMb M) pc = .ok (.invokestatic idx, 3))
    (kk : ∀ (x : Int64) (h' : zH) (H1 : Heap) (locs1 : List Loc), Qa x h' → zREL E h' H1 → va_S (fun q => zElo E ≤ q) s.heap H1 locs1 → zWV E M P p e s m args below meth c H1 locs1 (k + (zMo M').cells) (n + (zMo M').slots) (pc + 3) ls [.long x]) :
    zWV E M P p e s m args below meth c H locs k n pc ls (av.reverse.map zval) := by
  obtain ⟨h1, h2, h3⟩ := zlkB_spec hB
  obtain ⟨w1, w2, w3, w4, -, -, w7⟩ := zMB_spec h1
  have i1 := w4 hkind
  have hts := F.2.2.2.2.2.1
  have hpre := zs_pre F hR hS av
  have hst : av.reverse.map zval = (av.map zval).reverse ++ [] := by rw [List.map_reverse, List.append_nil]
  rcases h3 with ⟨-, h3⟩ | ⟨-, h3⟩
  · exact zs_runL (va_runS (As := av.map zval) (zs_fix F) hM ⟨zs_callB F h1 h2 (hts _ h3), hts _ i1⟩ hpre rfl (by rw [List.length_map]; exact hn) hsz (rest := []) hst (lv_room (by simp)) hdg hroom) hS kk
  · exact zs_runL (va_runSN (As := av.map zval) (host := RX8) (zs_fix F) hM ⟨zs_CN F h1 h2 h3, hts _ i1, trivial⟩ hpre rfl (by rw [List.length_map]; exact hn) hsz (rest := []) hst (lv_room (by simp)) hdg hroom) hS kk
end ZXC
def zck (b : Bool) (P : Prop) : Prop := match b with
  | true => P
  | false => False
theorem zck_spec {b : Bool} {P : Prop} (h : zck b P) : b = true ∧ P := by
  unfold zck at h; split at h
  · exact ⟨rfl, h⟩
  · exact h.elim
abbrev zKX : Type := zX → zKt
def zXfree (Λ : List (Nat × Int64)) (j : Nat) : Bool := Λ.all (fun q => !(Nat.beq q.1 j) && !(Nat.beq (q.1 + 1) j))
theorem zXfree_spec {Λ : List (Nat × Int64)} {j : Nat} (h : zXfree Λ j = true) : ∀ q ∈ Λ, q.1 ≠ j ∧ q.1 + 1 ≠ j := by
  intro q hq
  have h1 := List.all_eq_true.mp h q hq
  simp only [Bool.and_eq_true, Bool.not_eq_true'] at h1
  exact ⟨fun e => (by have := h1.1; rw [e, Nat.beq_refl] at this; cases this), fun e => (by have := h1.2; rw [e, Nat.beq_refl] at this; cases this)⟩
def zXrest (Λ : List (Nat × Int64)) (j : Nat) : List (Nat × Int64) := Λ.filter (fun q => !(Nat.beq q.1 j))
def zXsep (Λ : List (Nat × Int64)) (j : Nat) : Bool := Λ.all (fun q => !(Nat.beq q.1 (j + 1)) && !(Nat.beq (q.1 + 1) j))
def zXget (Λ : List (Nat × Int64)) (j : Nat) (f : Int64 → Prop) : Prop := match Λ.find? (fun q => Nat.beq q.1 j) with
  | some q => f q.2
  | none => False
theorem zXget_spec {Λ : List (Nat × Int64)} {j : Nat} {f : Int64 → Prop} (h : zXget Λ j f) : ∃ x, (j, x) ∈ Λ ∧ f x := by
  unfold zXget at h; split at h
  · rename_i q hq
    have h1 := List.mem_of_find?_eq_some hq
    have h2 := List.find?_some hq
    have h3 : q.1 = j := Nat.eq_of_beq_eq_true h2
    exact ⟨q.2, by rw [← h3]; exact h1, h⟩
  · exact h.elim
def zx1 (τ : List Int64) (f : Int64 → List Int64 → Prop) : Prop := match τ with
  | x :: τ => f x τ
  | [] => False
theorem zx1_spec {τ : List Int64} {f : Int64 → List Int64 → Prop} (h : zx1 τ f) : ∃ x τ', τ = x :: τ' ∧ f x τ' := by
  unfold zx1 at h; split at h
  · exact ⟨_, _, rfl, h⟩
  · exact h.elim
def zx2 (τ : List Int64) (f : Int64 → Int64 → List Int64 → Prop) : Prop := match τ with
  | y :: x :: τ => f y x τ
  | _ => False
theorem zx2_spec {τ : List Int64} {f : Int64 → Int64 → List Int64 → Prop} (h : zx2 τ f) : ∃ y x τ', τ = y :: x :: τ' ∧ f y x τ' := by
  unfold zx2 at h; split at h
  · exact ⟨_, _, _, rfl, h⟩
  · exact h.elim
def zx0 (τ : List Int64) (P : Prop) : Prop := match τ with
  | [] => P
  | _ => False
theorem zx0_spec {τ : List Int64} {P : Prop} (h : zx0 τ P) : τ = [] ∧ P := by
  unfold zx0 at h; split at h
  · exact ⟨rfl, h⟩
  · exact h.elim
def zi1 (st : List zV) (f : Int32 → Prop) : Prop := match st with
  | [.inl x] => f x
  | _ => False
theorem zi1_spec {st : List zV} {f : Int32 → Prop} (h : zi1 st f) : ∃ x, st = [.inl x] ∧ f x := by
  unfold zi1 at h; split at h
  · exact ⟨_, rfl, h⟩
  · exact h.elim
def zLc (n : Nat) : Int64 := Int64.ofNat n
def zwpX (E : zE) (M : zM) (Q : Option zV → zH → Prop) (QL : Int64 → zH → Prop) (K : zKX) (ins : zIns) (lk : zLk) (X : zX) (pc : Nat) (L : List (Option zV)) (st : List zV) (h : zH) (k n : Nat) : Prop := match ins with
  | .ldc2_w _ => zemp st (K (zLc lk.1 :: X.1, X.2) (pc + 3) L [] h k n)
  | .lload_n j => zemp st (zXget X.2 j.val fun x => K (x :: X.1, X.2) (pc + 1) L [] h k n)
  | .lload j => zemp st (zXget X.2 j fun x => K (x :: X.1, X.2) (pc + 2) L [] h k n)
  | .lstore_n j => zemp st (zck (zXsep X.2 j.val) (zx1 X.1 fun x τ => K (τ, (j.val, x) :: zXrest X.2 j.val) (pc + 1) ((L.set j.val none).set (j.val + 1) none) [] h k n))
  | .lstore j => zemp st (zck (zXsep X.2 j) (zx1 X.1 fun x τ => K (τ, (j, x) :: zXrest X.2 j) (pc + 2) ((L.set j none).set (j + 1) none) [] h k n))
  | .i2l => zi1 st fun x => K (x.toInt64 :: X.1, X.2) (pc + 1) L [] h k n
  | .ladd => zemp st (zx2 X.1 fun y x τ => K ((x + y) :: τ, X.2) (pc + 1) L [] h k n)
  | .lmul => zemp st (zx2 X.1 fun y x τ => K ((x * y) :: τ, X.2) (pc + 1) L [] h k n)
  | .lcmp => zemp st (zx2 X.1 fun y x τ => K (τ, X.2) (pc + 1) L [.inl (lg_cmp x y)] h k n)
  | .lreturn => zemp st (zx1 X.1 fun x τ => zx0 τ (QL x h))
  | .iconst _ | .bipush _ | .sipush _ | .iload_n _ | .iload _ | .aload_n _ | .aload _ | .iadd | .isub | .imul | .idiv | .irem | .iand | .ishr | .dup | .pop | .goto _ | .ifCond _ _ | .if_icmp _ _ | .iastore | .new _ | .newarray _ => zwpI E M Q (K X) ins lk pc L st h k n
  | .istore_n j | .astore_n j => zck (zXfree X.2 j.val) (zwpI E M Q (K X) ins lk pc L st h k n)
  | .istore j | .astore j | .iinc j _ => zck (zXfree X.2 j) (zwpI E M Q (K X) ins lk pc L st h k n)
  | .ireturn => zx0 X.1 (zwpI E M Q (K X) ins lk pc L st h k n)
  | .invokevirtual _ => zck (Nat.ble (st.length + 2 * X.1.length) 8) (zwpI E M Q (K X) ins lk pc L st h k n)
  | .invokespecial _ => match lk.2.2.2.2.2 with
    | none => False
    | some _ => zck (Nat.ble (st.length + 2 * X.1.length) 8) (zwpI E M Q (K X) ins lk pc L st h k n)
  | .invokestatic _ => match lk.2.2.2.2.2 with
    | none => False
    | some M' => match zMr M' with
      | some .long => zx0 X.1 (zpop (zMn M') st [] fun av rest => zemp rest (zroom M M' k n fun k' n' => zMetL E M' av h (fun x h' => K ([x], X.2) (pc + 3) L [] h' k' n')))
      | _ => zck (Nat.ble (st.length + 2 * X.1.length) 8) (zwpI E M Q (K X) ins lk pc L st h k n)
  | _ => False
def zentX (M : zM) (pc : Nat) (ins : zIns) (len : Nat) (lk : zLk) : Bool := match ins with
  | .ldc2_w idx => decide (len = 3) && zw lk.2.1 (.constantLong (zMy M).cls idx (zLc lk.1))
  | .lstore_n j => decide (len = 1) && decide (j.val + 1 < zMl M)
  | .lstore j => decide (len = 2) && decide (j + 1 < zMl M)
  | .lload _ => decide (len = 2)
  | .lload_n _ | .i2l | .ladd | .lmul | .lcmp => decide (len = 1)
  | .lreturn => decide (len = 1) && decide (zMr M = some .long)
  | _ => zentB M pc ins len lk
section ZIX
variable {E : zE} {M : zM} {Q : Option zV → zH → Prop} {QL : Int64 → zH → Prop} {K : zKX} {lk : zLk} {X : zX} {pc len : Nat} {L : List (Option zV)} {st : List zV} {h : zH} {k n : Nat}
theorem zX_room {rest : List zV} {av : List zV} {τ : List Int64} {b : Nat} (h : (av.reverse ++ .inr b :: rest).length + 2 * τ.length ≤ 8) : rest.length + 2 * τ.length ≤ 8 := by
  rw [List.length_append, List.length_cons] at h
  omega
theorem zX_room0 {rest : List zV} {av : List zV} {τ : List Int64} (h : (av.reverse ++ rest).length + 2 * τ.length ≤ 8) : rest.length + 2 * τ.length ≤ 8 := by
  rw [List.length_append] at h
  omega
theorem zI_soundX {ins : zIns} (hK : ∀ X pc L st h k n, K X pc L st h k n → zJX E M Q QL X pc L st h k n) (hd : decode (zMb M) pc = .ok (ins, len)) (he : zentX M pc ins len lk = true) (hw : zwpX E M Q QL K ins lk X pc L st h k n) : zJX E M Q QL X pc L st h k n := by
  intro hL hkc hns p e s m args below meth c F H locs ls hR hS hl
  have hx := F.1
  have hb := F.2.1
  have hml := F.2.2.1
  have hrt := F.2.2.2.1
  have hown := F.2.2.2.2.1
  have hts := F.2.2.2.2.2.1
  have hlk := F.2.2.2.2.2.2.2.1
  have hlen := hl.1
  have hl0 := hl.toL
  have go : ∀ X pc L' st h k n H locs ls, K X pc L' st h k n → L'.length = zMl M → k ≤ (zMo M).cells → n ≤ (zMo M).slots → zREL E h H → va_S (fun q => zElo E ≤ q) s.heap H locs → zLX ls (zMl M) L' X.2 → zWV E M (zQcX E Q QL) p e s m args below meth c H locs k n pc ls (st.map zval ++ zXs X.1) :=
    fun X pc L' st h k n H locs ls a b c1 c2 d1 d2 d3 => hK X pc L' st h k n a b c1 c2 p e s m args below meth c F H locs ls d1 d2 d3
  cases ins <;> (try (simp only [zwpX] at hw)) <;> (try (simp only [zwpI] at hw)) <;> (try (simp only [zentX] at he)) <;> (try (simp only [zentB, Bool.and_eq_true, decide_eq_true_eq] at he)) <;> (try (exact hw.elim))
  case ldc2_w idx =>
    obtain ⟨rfl, he⟩ := he
    obtain ⟨rfl, h2⟩ := zemp_spec hw
    exact lv_ldc2 hx hb hown (hts _ (zw_spec he)) hd (go _ _ _ _ _ _ _ _ _ _ h2 hL hkc hns hR hS hl)
  case lload_n j =>
    obtain rfl := he
    obtain ⟨rfl, h1⟩ := zemp_spec hw
    obtain ⟨x, h1, h2⟩ := zXget_spec h1
    exact lv_lload_n hx hb hd rfl (hl.at h1) (go _ _ _ _ _ _ _ _ _ _ h2 hL hkc hns hR hS hl)
  case lload j =>
    obtain rfl := he
    obtain ⟨rfl, h1⟩ := zemp_spec hw
    obtain ⟨x, h1, h2⟩ := zXget_spec h1
    exact lv_lload hx hb hd (hl.at h1) (go _ _ _ _ _ _ _ _ _ _ h2 hL hkc hns hR hS hl)
  case lstore_n j =>
    obtain ⟨rfl, hj⟩ := he
    obtain ⟨rfl, h1⟩ := zemp_spec hw
    obtain ⟨h0, h1⟩ := zck_spec h1
    obtain ⟨τ, Λ⟩ := X
    obtain ⟨x, τ', rfl, h2⟩ := zx1_spec h1
    refine lv_lstore_n hx hb hd rfl hl hj rfl (fun ls' hl' => go _ _ _ _ _ _ _ _ _ _ h2 (by rw [List.length_set, List.length_set]; exact hL) hkc hns hR hS (zLX.setl (fun q hq => ?_) hl'))
    rcases List.mem_cons.mp hq with h3 | h3
    · exact Or.inl h3
    · obtain ⟨h4, h5⟩ := List.mem_filter.mp h3
      have h6 := List.all_eq_true.mp h0 q h4
      simp only [Bool.and_eq_true, Bool.not_eq_true'] at h6 h5
      exact Or.inr ⟨h4, fun e => (by rw [e, Nat.beq_refl] at h5; cases h5), fun e => (by have := h6.1; rw [e, Nat.beq_refl] at this; cases this), fun e => (by have := h6.2; rw [e, Nat.beq_refl] at this; cases this)⟩
  case lstore j =>
    obtain ⟨rfl, hj⟩ := he
    obtain ⟨rfl, h1⟩ := zemp_spec hw
    obtain ⟨h0, h1⟩ := zck_spec h1
    obtain ⟨τ, Λ⟩ := X
    obtain ⟨x, τ', rfl, h2⟩ := zx1_spec h1
    refine lv_lstore hx hb hd hl hj rfl (fun ls' hl' => go _ _ _ _ _ _ _ _ _ _ h2 (by rw [List.length_set, List.length_set]; exact hL) hkc hns hR hS (zLX.setl (fun q hq => ?_) hl'))
    rcases List.mem_cons.mp hq with h3 | h3
    · exact Or.inl h3
    · obtain ⟨h4, h5⟩ := List.mem_filter.mp h3
      have h6 := List.all_eq_true.mp h0 q h4
      simp only [Bool.and_eq_true, Bool.not_eq_true'] at h6 h5
      exact Or.inr ⟨h4, fun e => (by rw [e, Nat.beq_refl] at h5; cases h5), fun e => (by have := h6.1; rw [e, Nat.beq_refl] at this; cases this), fun e => (by have := h6.2; rw [e, Nat.beq_refl] at this; cases this)⟩
  case i2l =>
    obtain rfl := he
    obtain ⟨x, rfl, h2⟩ := zi1_spec hw
    exact lv_i2l hx hb hd rfl (go _ _ _ _ _ _ _ _ _ _ h2 hL hkc hns hR hS hl)
  case ladd =>
    obtain rfl := he
    obtain ⟨rfl, h1⟩ := zemp_spec hw
    obtain ⟨τ, Λ⟩ := X
    obtain ⟨y, x, τ', rfl, h2⟩ := zx2_spec h1
    exact lv_ladd hx hb hd (go _ _ _ _ _ _ _ _ _ _ h2 hL hkc hns hR hS hl)
  case lmul =>
    obtain rfl := he
    obtain ⟨rfl, h1⟩ := zemp_spec hw
    obtain ⟨τ, Λ⟩ := X
    obtain ⟨y, x, τ', rfl, h2⟩ := zx2_spec h1
    exact lv_lmul hx hb hd (go _ _ _ _ _ _ _ _ _ _ h2 hL hkc hns hR hS hl)
  case lcmp =>
    obtain rfl := he
    obtain ⟨rfl, h1⟩ := zemp_spec hw
    obtain ⟨τ, Λ⟩ := X
    obtain ⟨y, x, τ', rfl, h2⟩ := zx2_spec h1
    exact W.lcmp hx hb hd (go _ _ _ _ _ _ _ _ _ _ h2 hL hkc hns hR hS hl)
  case lreturn =>
    obtain ⟨rfl, he⟩ := he
    obtain ⟨rfl, h1⟩ := zemp_spec hw
    obtain ⟨τ, Λ⟩ := X
    obtain ⟨x, τ', rfl, h2⟩ := zx1_spec h1
    obtain ⟨rfl, h2⟩ := zx0_spec h2
    refine W.widen (k := (zMo M).cells) (n := (zMo M).slots) hkc hns ?_
    exact W.lret hx hb (by rw [hrt, he]) (fun t ht hW => Or.inr ⟨⟨x, h, rfl, h2, by rw [ht]; exact hR⟩, hS.F ht⟩) hS.2.2 hd
  case iconst i => obtain ⟨rfl, -⟩ := he; exact lv_iconst hx hb hd (zcst_eq i) (go _ _ _ _ _ _ _ _ _ _ hw hL hkc hns hR hS hl)
  case bipush i => obtain ⟨rfl, he⟩ := he; exact lv_bipush hx hb hd he (go _ _ _ _ _ _ _ _ _ _ hw hL hkc hns hR hS hl)
  case sipush i => obtain ⟨rfl, he⟩ := he; exact lv_sipush hx hb hd he (go _ _ _ _ _ _ _ _ _ _ hw hL hkc hns hR hS hl)
  case iload_n j => obtain ⟨rfl, -⟩ := he; obtain ⟨x, h1, h2⟩ := zgi_spec hw; exact lv_iload_n hx hb hd rfl (zm_at hl0 h1) (go _ _ _ _ _ _ _ _ _ _ h2 hL hkc hns hR hS hl)
  case iload j => obtain ⟨rfl, -⟩ := he; obtain ⟨x, h1, h2⟩ := zgi_spec hw; exact lv_iload hx hb hd (zm_at hl0 h1) (go _ _ _ _ _ _ _ _ _ _ h2 hL hkc hns hR hS hl)
  case aload_n j =>
    obtain ⟨rfl, -⟩ := he
    obtain ⟨x, h1, h2⟩ := zga_spec hw
    have h3 := hl0.at h1
    have h4 := go _ _ _ _ _ _ _ _ _ _ h2 hL hkc hns hR hS hl
    have e1 : zval (.inr x) = zrf x := rfl
    rw [List.map_cons, e1, List.cons_append] at h4
    rw [e1] at h3
    rcases zrf_cases x with ⟨-, hx0⟩ | ⟨-, hx0⟩ <;> rw [hx0] at h3 h4
    · exact lv_aload_nN hx hb hd rfl h3 h4
    · exact lv_aload_n hx hb hd rfl h3 h4
  case aload j =>
    obtain ⟨rfl, -⟩ := he
    obtain ⟨x, h1, h2⟩ := zga_spec hw
    have h3 := hl0.at h1
    have h4 := go _ _ _ _ _ _ _ _ _ _ h2 hL hkc hns hR hS hl
    have e1 : zval (.inr x) = zrf x := rfl
    rw [List.map_cons, e1, List.cons_append] at h4
    rw [e1] at h3
    rcases zrf_cases x with ⟨-, hx0⟩ | ⟨-, hx0⟩ <;> rw [hx0] at h3 h4
    · exact lv_aloadN hx hb hd h3 h4
    · exact lv_aload hx hb hd h3 h4
  case istore_n j =>
    obtain ⟨rfl, hj⟩ := he
    obtain ⟨h0, hw⟩ := zck_spec hw
    obtain ⟨x, st', rfl, h2⟩ := z1i_spec hw
    exact lv_istore_n hx hb hd rfl hl hj rfl (fun ls' hl' => go _ _ _ _ _ _ _ _ _ _ h2 (by rw [List.length_set]; exact hL) hkc hns hR hS (zLX.set (v := .inl x) (by rw [hL]; exact hj) (zXfree_spec h0) hl'))
  case istore j =>
    obtain ⟨rfl, hj⟩ := he
    obtain ⟨h0, hw⟩ := zck_spec hw
    obtain ⟨x, st', rfl, h2⟩ := z1i_spec hw
    exact lv_istore hx hb hd hl hj rfl (fun ls' hl' => go _ _ _ _ _ _ _ _ _ _ h2 (by rw [List.length_set]; exact hL) hkc hns hR hS (zLX.set (v := .inl x) (by rw [hL]; exact hj) (zXfree_spec h0) hl'))
  case astore_n j =>
    obtain ⟨rfl, hj⟩ := he
    obtain ⟨h0, hw⟩ := zck_spec hw
    obtain ⟨x, st', rfl, h2⟩ := z1a_spec hw
    show zWV E M (zQcX E Q QL) p e s m args below meth c H locs k n pc ls (zrf x :: (st'.map zval ++ zXs X.1))
    have key := fun ls' hl' => go _ _ _ _ _ _ _ _ _ ls' h2 (by rw [List.length_set]; exact hL) hkc hns hR hS (zLX.set (v := .inr x) (by rw [hL]; exact hj) (zXfree_spec h0) hl')
    have e1 : zval (.inr x) = zrf x := rfl
    rw [e1] at key
    rcases zrf_cases x with ⟨-, hx0⟩ | ⟨-, hx0⟩ <;> rw [hx0] at key ⊢
    · exact lv_astore_nN hx hb hd rfl hl hj rfl key
    · exact lv_astore_n hx hb hd rfl hl hj rfl key
  case astore j =>
    obtain ⟨rfl, hj⟩ := he
    obtain ⟨h0, hw⟩ := zck_spec hw
    obtain ⟨x, st', rfl, h2⟩ := z1a_spec hw
    show zWV E M (zQcX E Q QL) p e s m args below meth c H locs k n pc ls (zrf x :: (st'.map zval ++ zXs X.1))
    have key := fun ls' hl' => go _ _ _ _ _ _ _ _ _ ls' h2 (by rw [List.length_set]; exact hL) hkc hns hR hS (zLX.set (v := .inr x) (by rw [hL]; exact hj) (zXfree_spec h0) hl')
    have e1 : zval (.inr x) = zrf x := rfl
    rw [e1] at key
    rcases zrf_cases x with ⟨-, hx0⟩ | ⟨-, hx0⟩ <;> rw [hx0] at key ⊢
    · exact lv_astoreN hx hb hd hl hj rfl key
    · exact lv_astore hx hb hd hl hj rfl key
  case iinc j cc =>
    obtain ⟨rfl, hj⟩ := he
    obtain ⟨h0, hw⟩ := zck_spec hw
    obtain ⟨x, h1, h2⟩ := zgi_spec hw
    obtain ⟨kk, hkk⟩ := List.getElem?_of_mem (List.mem_append_left (zXl X.2) ((zLl_mem L 0 (j, .int x)).mpr ⟨j, .inl x, h1, by rw [Nat.zero_add]; rfl⟩))
    exact lv_iinc hx hb hd hl hkk (by rw [zcst_eq]) hj rfl (fun ls' hl' => go _ _ _ _ _ _ _ _ _ _ h2 (by rw [List.length_set]; exact hL) hkc hns hR hS (zLX.set (v := .inl (x + zcst cc)) (by rw [hL]; exact hj) (zXfree_spec h0) hl'))
  case iadd => obtain ⟨rfl, -⟩ := he; obtain ⟨y, x, st', rfl, h2⟩ := z2i_spec hw; exact lv_iadd hx hb hd (go _ _ _ _ _ _ _ _ _ _ h2 hL hkc hns hR hS hl)
  case isub => obtain ⟨rfl, -⟩ := he; obtain ⟨y, x, st', rfl, h2⟩ := z2i_spec hw; exact lv_isub hx hb hd (go _ _ _ _ _ _ _ _ _ _ h2 hL hkc hns hR hS hl)
  case imul => obtain ⟨rfl, -⟩ := he; obtain ⟨y, x, st', rfl, h2⟩ := z2i_spec hw; exact lv_imul hx hb hd (go _ _ _ _ _ _ _ _ _ _ h2 hL hkc hns hR hS hl)
  case idiv => obtain ⟨rfl, -⟩ := he; obtain ⟨y, x, st', rfl, h1, h2⟩ := z2i_spec hw; exact lv_idiv hx hb hd h1 (go _ _ _ _ _ _ _ _ _ _ h2 hL hkc hns hR hS hl)
  case irem => obtain ⟨rfl, -⟩ := he; obtain ⟨y, x, st', rfl, h1, h2⟩ := z2i_spec hw; exact lv_irem hx hb hd h1 (go _ _ _ _ _ _ _ _ _ _ h2 hL hkc hns hR hS hl)
  case iand => obtain ⟨rfl, -⟩ := he; obtain ⟨y, x, st', rfl, h2⟩ := z2i_spec hw; exact lv_iand hx hb hd (go _ _ _ _ _ _ _ _ _ _ h2 hL hkc hns hR hS hl)
  case ishr => obtain ⟨rfl, -⟩ := he; obtain ⟨y, x, st', rfl, h2⟩ := z2i_spec hw; exact lv_ishr hx hb hd (go _ _ _ _ _ _ _ _ _ _ h2 hL hkc hns hR hS hl)
  case dup => obtain ⟨rfl, -⟩ := he; obtain ⟨v, st', rfl, h2⟩ := z1_spec hw; exact lv_dup hx hb hd (zval_cat v) (go _ _ _ _ _ _ _ _ _ _ h2 hL hkc hns hR hS hl)
  case pop => obtain ⟨rfl, -⟩ := he; obtain ⟨v, st', rfl, h2⟩ := z1_spec hw; exact lv_pop hx hb hd (zval_cat v) (go _ _ _ _ _ _ _ _ _ _ h2 hL hkc hns hR hS hl)
  case goto off => obtain ⟨rfl, he⟩ := he; exact lv_goto hx hb hd (zt_spec he) (go _ _ _ _ _ _ _ _ _ _ hw hL hkc hns hR hS hl)
  case ifCond cc off =>
    obtain ⟨rfl, he⟩ := he
    obtain ⟨x, st', rfl, h1, h2⟩ := z1i_spec hw
    have a1 := fun q => go _ _ _ _ _ _ _ _ _ _ (h1 q) hL hkc hns hR hS hl
    have a2 := fun q => go _ _ _ _ _ _ _ _ _ _ (h2 q) hL hkc hns hR hS hl
    cases cc
    · exact lv_if_eq hx hb hd (zt_spec he) a1 a2
    · exact lv_if_ne hx hb hd (zt_spec he) a1 a2
    · exact lv_if_lt hx hb hd (zt_spec he) a1 a2
    · exact lv_if_ge hx hb hd (zt_spec he) a1 a2
    · exact lv_if_gt hx hb hd (zt_spec he) a1 a2
    · exact lv_if_le hx hb hd (zt_spec he) a1 a2
  case if_icmp cc off =>
    obtain ⟨rfl, he⟩ := he
    obtain ⟨y, x, st', rfl, h1, h2⟩ := z2i_spec hw
    have a1 := fun q => go _ _ _ _ _ _ _ _ _ _ (h1 q) hL hkc hns hR hS hl
    have a2 := fun q => go _ _ _ _ _ _ _ _ _ _ (h2 q) hL hkc hns hR hS hl
    cases cc
    · exact lv_icmp_eq hx hb hd (zt_spec he) a1 a2
    · exact lv_icmp_ne hx hb hd (zt_spec he) a1 a2
    · exact lv_icmp_lt hx hb hd (zt_spec he) a1 a2
    · exact lv_icmp_ge hx hb hd (zt_spec he) a1 a2
    · exact lv_icmp_gt hx hb hd (zt_spec he) a1 a2
    · exact lv_icmp_le hx hb hd (zt_spec he) a1 a2
  case iastore =>
    obtain ⟨rfl, -⟩ := he
    obtain ⟨x, i, a, st', rfl, h4, h5, h6⟩ := ziia_spec hw
    exact zs_iast F hR hS h4 h5 hd (fun H' locs' r1 r2 => go _ _ _ _ _ _ _ _ _ _ h6 hL hkc hns r1 r2 hl)
  case new idx =>
    obtain ⟨rfl, ⟨⟨h1, h2⟩, h3⟩, h4⟩ := he
    obtain ⟨⟨h5, h6⟩, h7⟩ := hw
    exact zs_new F hR hS h1 h2 h3 h4 h5 h6 hd (fun H' r1 r2 => go _ _ _ _ _ _ _ _ _ _ h7 hL h5 h6 r1 r2 hl)
  case newarray t =>
    obtain ⟨rfl, ⟨h1, h2⟩, h3⟩ := he
    obtain ⟨x, st', rfl, ⟨h4, h5, h6, h7⟩, h8⟩ := z1i_spec hw
    exact zs_newa F hR hS h1 h2 h3 h4 h5 h6 h7 hd (fun H' r1 r2 => go _ _ _ _ _ _ _ _ _ _ h8 hL h6 h7 r1 r2 hl)
  case invokespecial idx =>
    obtain ⟨rfl, he⟩ := he
    split at hw
    · exact hw.elim
    · rename_i M' hsome
      obtain ⟨h0, hw⟩ := zck_spec hw
      have h0 := Nat.le_of_ble_eq_true h0
      simp only [hsome] at hw
      rw [hsome] at he
      simp only [Bool.and_eq_true, decide_eq_true_eq] at he
      obtain ⟨h1, h2, h3⟩ := he
      obtain ⟨av, st1, rfl, hn, h4⟩ := zpop_spec _ _ _ _ hw
      rw [List.append_nil] at h4
      obtain ⟨b, rest, rfl, hb', h5⟩ := z1a_spec h4
      obtain ⟨h6, h7⟩ := zshort_spec h5
      obtain ⟨h8, h9⟩ := zroom_spec hkc hns h7
      exact zs_callIX F hR hS hlen h1 h2 hb' hn (zX_room h0) h8 (zback_spec h9) hd (fun r h' H1 locs1 q r1 r2 => by
        have := go _ _ _ _ _ _ _ _ _ _ q hL h8.1 h8.2 r1 r2 hl
        rw [List.map_append, ← Option.toList_map, List.append_assoc] at this
        exact this)
  case invokevirtual idx =>
    obtain ⟨rfl, he⟩ := he
    obtain ⟨h0, hw⟩ := zck_spec hw
    have h0 := Nat.le_of_ble_eq_true h0
    split at hw
    · exact hw.elim
    · rename_i M' hsome
      rw [hsome] at he
      simp only [Bool.and_eq_true, decide_eq_true_eq] at he
      obtain ⟨h1, h2, hcls, hnest⟩ := he
      obtain ⟨av, st1, rfl, hn, h4⟩ := zpop_spec _ _ _ _ hw
      rw [List.append_nil] at h4
      obtain ⟨b, rest, rfl, h4⟩ := z1a_spec h4
      obtain ⟨h4, h5⟩ := h4
      have hb0 := (hR.pos (a := b) (by omega)).1
      have hrecv : ∃ cell : Cell, H[b - 1]? = some cell ∧ cell.vm.isStatics = false ∧ s.vm.findClass (zMy M').cls = some cell.cls := by
        rw [← hcls.2]
        exact zs_recv F hR hcls.1 h4
      obtain ⟨h6, h7⟩ := zshort_spec h5
      obtain ⟨h8, h9⟩ := zroom_spec hkc hns h7
      exact zs_callVX F hR hS hlen h1 h2 hnest hb0 hrecv hn (zX_room h0) h8 (zback_spec h9) hd (fun r h' H1 locs1 q r1 r2 => by
        have := go _ _ _ _ _ _ _ _ _ _ q hL h8.1 h8.2 r1 r2 hl
        rw [List.map_append, ← Option.toList_map, List.append_assoc] at this
        exact this)
  case invokestatic idx =>
    obtain ⟨rfl, he⟩ := he
    split at hw
    · exact hw.elim
    · rename_i M' hsome
      rw [hsome] at he
      simp only [Bool.and_eq_true, decide_eq_true_eq] at he
      obtain ⟨h1, h2⟩ := he
      split at hw
      · obtain ⟨hX0, hw⟩ := zx0_spec hw
        obtain ⟨av, rest, rfl, hn, h5⟩ := zpop_spec _ _ _ _ hw
        rw [List.append_nil] at h5
        obtain ⟨e5, h6⟩ := zemp_spec h5
        subst e5
        obtain ⟨h8, h9⟩ := zroom_spec hkc hns h6
        have e0 : (av.reverse ++ []).map zval ++ zXs X.1 = av.reverse.map zval := by rw [hX0, List.append_nil]; exact List.append_nil _
        rw [e0]
        exact zs_callSL F hR hS hlen h1 h2 hn h8 h9 hd (fun x h' H1 locs1 q r1 r2 => go _ _ _ _ _ _ _ _ _ _ q hL h8.1 h8.2 r1 r2 hl)
      · obtain ⟨h0, hw⟩ := zck_spec hw
        have h0 := Nat.le_of_ble_eq_true h0
        simp only [hsome] at hw
        obtain ⟨av, rest, rfl, hn, h5⟩ := zpop_spec _ _ _ _ hw
        rw [List.append_nil] at h5
        obtain ⟨h6, h7⟩ := zshort_spec h5
        obtain ⟨h8, h9⟩ := zroom_spec hkc hns h7
        exact zs_callSX F hR hS hlen h1 h2 hn (zX_room0 h0) h8 (zback_spec h9) hd (fun r h' H1 locs1 q r1 r2 => by
          have := go _ _ _ _ _ _ _ _ _ _ q hL h8.1 h8.2 r1 r2 hl
          rw [List.map_append, ← Option.toList_map, List.append_assoc] at this
          exact this)
  case ireturn =>
    obtain ⟨rfl, -⟩ := he
    obtain ⟨hX0, hw⟩ := zx0_spec hw
    obtain ⟨τ, Λ⟩ := X
    have hX0 : τ = [] := hX0
    subst hX0
    obtain ⟨x, st', rfl, h0⟩ := z1i_spec hw
    obtain ⟨rfl, h1⟩ := zemp_spec h0
    refine W.widen (k := (zMo M).cells) (n := (zMo M).slots) hkc hns ?_
    have fin : Q (some (.inl x)) h → ∀ t : State, t.heap = H → s.WarmedH t.vm → zQcX E Q QL args s (.returned (some (.int x))) t := fun h2 t ht hW => Or.inl ⟨⟨some (.inl x), h, rfl, h2, by rw [ht]; exact hR⟩, hS.F ht⟩
    unfold znar at h1
    split at h1
    · rename_i h0
      exact W.iret hx hb (by rw [hrt, h0]) (fin h1) hS.2.2 hd
    · rename_i h0
      exact W.zret hx hb (by rw [hrt, h0]) (by rcases h1.1 with rfl | rfl <;> rfl) (fin h1.2) hS.2.2 hd
    · rename_i t _ _ h0
      exact W.zret hx hb (by rw [hrt, h0]) h1.1 (fin h1.2) hS.2.2 hd
    · exact h1.elim
end ZIX
def znxX (E : zE) (C : zK) (Q : Option zV → zH → Prop) (QL : Int64 → zH → Prop) (w : zKX) : zKX := fun X pc L st h k n => match zhd C pc with
  | true => zJX E C.1 Q QL X pc L st h k n
  | false => w X pc L st h k n
def zwX (E : zE) (C : zK) (Q : Option zV → zH → Prop) (QL : Int64 → zH → Prop) : Nat → zKX
  | 0 => fun X pc L st h k n => zJX E C.1 Q QL X pc L st h k n
  | f + 1 => fun X pc L st h k n => match zrow C pc with
    | some r => zwpX E C.1 Q QL (znxX E C Q QL (zwX E C Q QL f)) r.2.1 r.2.2.2 X pc L st h k n
    | none => False
def zOKX (C : zK) : Bool := C.2.1.all (fun r => zentX C.1 r.1 r.2.1 r.2.2.1 r.2.2.2 && decide (decode (zMb C.1) r.1 = .ok (r.2.1, r.2.2.1)))
theorem zwX_sound {E : zE} {C : zK} {Q : Option zV → zH → Prop} {QL : Int64 → zH → Prop} (hC : zOKX C = true) : ∀ f X pc L st h k n, zwX E C Q QL f X pc L st h k n → zJX E C.1 Q QL X pc L st h k n
  | 0, _, _, _, _, _, _, _, hw => hw
  | f + 1, X, pc, L, st, h, k, n, hw => by
    simp only [zwX] at hw
    split at hw
    · rename_i r hr
      have h1 := List.find?_some hr
      have h2 := List.mem_of_find?_eq_some hr
      have h3 := List.all_eq_true.mp hC r h2
      simp only [Bool.and_eq_true, decide_eq_true_eq] at h3
      have h4 : r.1 = pc := Nat.eq_of_beq_eq_true h1
      rw [h4] at h3
      refine zI_soundX (fun X pc L st h k n hk => ?_) h3.2 h3.1 hw
      unfold znxX at hk
      split at hk
      · exact hk
      · exact zwX_sound hC f _ _ _ _ _ _ _ hk
    · exact hw.elim
theorem zwX_met {E : zE} {C : zK} {av : List zV} {h : zH} {QL : Int64 → zH → Prop} (hM : zMB C.1 = true) (hC : zOKX C = true) (hlen : av.length ≤ zMl C.1) (f : Nat) (hw : zwX E C (fun _ _ => False) QL f ([], []) 0 (av.map some ++ List.replicate (zMl C.1 - av.length) none) [] h 0 0) : zMetL E C.1 av h QL := by
  obtain ⟨w1, w2, -⟩ := zMB_spec hM
  have hMet : Met (zEl E) (zMy C.1) (zws C.1) (zMo C.1) (zPc E av h) (zQcX E (fun _ _ => False) QL) (zMo C.1).cells (zMo C.1).slots (fun q => zElo E ≤ q) := by
    refine Met.ofW (cc := zMb C.1) (maxL := zMl C.1) (ret := zMr C.1) w1 rfl ?_
    intro p e s m args below meth c s₁ B hml hv
    obtain ⟨rfl, hR, hKK⟩ := hv
    have hts := atoms_spec (ws := zws C.1) B.pre
    have hown : s.vm.findClass (zMy C.1).cls = some m.cls := findClass_of_methodNamed B.named
    have F : zFix E C.1 p s m meth (av.map zval).toArray c := ⟨B.exec, B.bytes, hml, B.returns, hown, fun w hw => hts w (List.mem_cons_of_mem _ hw), hKK, B.notSynchronized, (name_of_methodNamed B.named B.method).1⟩
    have hl := lv_entry (av.map zval) (n := zMl C.1) (by rw [zlg_len]; exact hlen)
    rw [lg_entry_eq]
    rw [zL_entry av 0, ← zLl_pad (av.map some) (zMl C.1 - av.length) 0, ← List.append_nil (zLl _ 0)] at hl
    exact zwX_sound hC f _ _ _ _ _ _ _ hw (by rw [List.length_append, List.length_map, List.length_replicate]; omega) (Nat.zero_le _) (Nat.zero_le _) p e s m _ below meth c F s.heap [] _ hR va_S.rf hl
  intro p e ha hc hk s m args below hf happ hp hk2
  obtain ⟨t, o, a1, b1, b2, c1, c2⟩ := hMet p e ha hc hk s m args below hf happ hp hk2
  refine ⟨t, o, a1, b1, b2, ?_, c2⟩
  rcases c1 with ⟨⟨r, h', d1, d2, d3⟩, d4⟩ | c1
  · exact d2.elim
  · exact c1
theorem zMetL.mono {E : zE} {M : zM} {av : List zV} {h : zH} {Q Q' : Int64 → zH → Prop} (hM : zMetL E M av h Q) (hQ : ∀ r h', Q r h' → Q' r h') : zMetL E M av h Q' := by
  intro p e ha hc hk s m args below hf happ hp hk2
  obtain ⟨t, o, a1, b1, b2, c1, c2⟩ := hM p e ha hc hk s m args below hf happ hp hk2
  obtain ⟨⟨r, h', d1, d2, d3⟩, d4⟩ := c1
  exact ⟨t, o, a1, b1, b2, ⟨⟨r, h', d1, hQ _ _ d2, d3⟩, d4⟩, c2⟩
theorem zwX_at {E : zE} {C : zK} {Q : Option zV → zH → Prop} {QL : Int64 → zH → Prop} {f : Nat} {X : zX} {pc : Nat} {L : List (Option zV)} {st : List zV} {h : zH} {k n : Nat} {r : Nat × zIns × Nat × zLk} (hr : zrow C pc = some r) : zwX E C Q QL (f + 1) X pc L st h k n = zwpX E C.1 Q QL (znxX E C Q QL (zwX E C Q QL f)) r.2.1 r.2.2.2 X pc L st h k n := by
  simp only [zwX, hr]
