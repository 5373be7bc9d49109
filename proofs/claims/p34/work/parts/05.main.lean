section ZC
variable {E : zE} {M : zM} {P : Array Value → State → Outcome → State → Prop} {p : Program} {e : Env} {s : State} {m : MethodId} {args : Array Value} {below : List Frame} {meth : Method} {c : Code} {H : Heap} {locs : List Loc} {k n pc : Nat} {ls : Array Slot} {h : zH}
theorem zMB_spec {M' : zM} (hB : zMB M' = true) : plainName (zMy M').cls = true ∧ .code (zMy M') (zMb M') (zMl M') (zMr M') ∈ zG ∧ .initialized (zMy M').cls ∈ zG ∧
    ((zMk M').1 = 0 → .static (zMy M') ∈ zG) ∧ ((zMk M').1 = 1 → .instanceMethod (zMy M') ∈ zG ∧ .selects (zMy M').cls (zMy M') (zMy M') ∈ zG) ∧ ((zMk M').1 = 2 → .instanceMethod (zMy M') ∈ zG ∧ zMr M' = none ∧ (zMy M').name = "<init>") ∧
    ((zMy M').cls ≠ "java/lang/invoke/MethodHandle" ∧ (zMy M').cls ≠ "java/lang/invoke/VarHandle" ∧ (parseMethodDescriptor (zMy M').desc).map (fun d => d.parameters.length) = some (zMn M')) := by
  unfold zMB at hB
  simp only [Bool.and_eq_true, decide_eq_true_eq] at hB
  obtain ⟨⟨⟨⟨h1, h2⟩, h3⟩, h4⟩, h5⟩ := hB
  refine ⟨h1, zw_spec h2, zw_spec h3, fun hk => ?_, fun hk => ?_, fun hk => ?_, h5⟩
  · rw [hk] at h4
    exact zw_spec h4
  · rw [hk] at h4
    simp only [Bool.and_eq_true] at h4
    exact ⟨zw_spec h4.1, zw_spec h4.2⟩
  · rw [hk] at h4
    simp only [Bool.and_eq_true, decide_eq_true_eq] at h4
    exact ⟨zw_spec h4.1.1, h4.1.2, h4.2⟩
theorem zG_good {w : Cond} (h : w ∈ zG) : (w.onTables && w.keeps) = true ∨ ∃ ty, w = .arrayClass ty := good_of_word (List.mem_filter.mp h).2
theorem zws_good {M' : zM} (hc : .code (zMy M') (zMb M') (zMl M') (zMr M') ∈ zG) : GoodIn zG (zws M') := by
  intro w hw
  unfold zws at hw
  rcases List.mem_cons.mp hw with rfl | hw
  · exact ⟨hc, zG_good hc⟩
  · exact ⟨hw, zG_good hw⟩
theorem zs_callB {M' : zM} (F : zFix E M p s m meth args c) (hB : zMB M' = true) (hroom : (zMo M').frames + 1 ≤ (zMo M).frames ∧ 8 + (zMl M' + 11) + (zMo M').locals ≤ (zMo M).locals) {idx : Nat} (hl : (Cond.methodLink (zMy M).cls idx (zMy M')).before args s = true) :
    CallB (zMo M) s args (zMy M).cls idx (zMy M') (zMb M') (zMl M') (zMr M') (zws M') (zMo M') (zMo M').cells (zMo M').slots (zMn M') := by
  obtain ⟨h1, h2, h3, -, -, -, h7⟩ := zMB_spec hB
  exact callB_of (zMn M') F.2.2.2.2.2.1 (zws_good h2) rfl rfl rfl (F.2.2.2.2.2.1 _ h3) hl h7 hroom
theorem zs_fix (F : zFix E M p s m meth args c) : CallFix p m c (zMb M) (zMl M) s args zG (zMy M).cls := ⟨F.1, F.2.1, F.2.2.1, F.2.2.2.2.1, F.2.2.2.2.2.1⟩
theorem zs_pre (F : zFix E M p s m meth args c) (hR : zREL E h H) (hS : va_S (fun q => zElo E ≤ q) s.heap H locs) (av : List zV) : PreS s H (zPc E av h) (av.map zval) :=
  ⟨zPc_blind E av h, fun U hU hW => ⟨rfl, by rw [hU]; exact hR, F.2.2.2.2.2.2.1.warm hW (by rw [hU]; exact hS.2.1)⟩⟩
theorem zs_cat (rest : List zV) : ((rest.map zval).map fun v => v.category).sum = rest.length := by
  induction rest with
  | nil => rfl
  | cons v r ih =>
    rw [List.map_cons, List.map_cons, List.sum_cons, ih, zval_cat, List.length_cons]
    omega
theorem zs_run {Qa : Option zV → zH → Prop} {st0 rest : List Value} {mc ms : Nat} {a : Array Value} {Qf : State → Prop} {R : Room} {l : Launch}
    (hr : va_Run p l e R s m args below meth c H locs k n mc ms (F0 m pc ls st0) rest (zQc E Qa a) (fun q => zElo E ≤ q)) (hS : va_S (fun q => zElo E ≤ q) s.heap H locs)
    (kk : ∀ (r : Option zV) (h' : zH) (H1 : Heap) (locs1 : List Loc), Qa r h' → zREL E h' H1 → va_S (fun q => zElo E ≤ q) s.heap H1 locs1 → W p l e R s m args below meth c H1 locs1 (k + mc) (n + ms) Qf (F0 m (pc + 3) ls ((r.map zval).toList ++ rest))) : W p l e R s m args below meth c H locs k n Qf (F0 m pc ls st0) := by
  intro T hT X
  obtain ⟨v, st₀, t, T', L, h0, X', hL, e1, e2, ⟨⟨r, h', hv, hq, hR⟩, hz, hk⟩, st⟩ := hr T hT X
  cases hv
  rw [h0] at hz hk
  obtain ⟨t2, a1, b1⟩ := kk r h' T'.heap (locs ++ L) hq (by rw [e1]; exact hR)
    ⟨Nat.le_trans hS.1 (by rw [e1]; exact hz), fun q h1 h2 => by rw [e1, hk q (Nat.lt_of_lt_of_le h1 hS.1) h2]; exact hS.2.1 q h1 h2, fun q hq => by
      rcases List.mem_append.mp hq with h | h
      · exact hS.2.2 q h
      · exact hL q h⟩ T' rfl X'
  exact ⟨t2, st t2 a1, b1⟩
theorem zs_recv (F : zFix E M p s m meth args c) (hR : zREL E h H) {b ci : Nat} (hci : ci < 9) (hk : zk h b = ci + 1) : ∃ cell : Cell, H[b - 1]? = some cell ∧ cell.vm.isStatics = false ∧ s.vm.findClass (zC ci) = some cell.cls := by
  obtain ⟨cell, v1, v2, v3, -⟩ := (hR.2.2.2 b).1 ci hci hk
  exact ⟨cell, v1, by rw [v3]; rfl, by rw [v2]; exact (F.2.2.2.2.2.2.1.1.1 ci _ (zcl ci hci)).2.1⟩
theorem zlkB_spec {M' : zM} {idx : Nat} {lk : zLk} (hB : zlkB M M' idx lk = true) : zMB M' = true ∧ ((zMo M').frames + 1 ≤ (zMo M).frames ∧ 8 + (zMl M' + 11) + (zMo M').locals ≤ (zMo M).locals) ∧
    ((lk.2.1 = 0 ∧ .methodLink (zMy M).cls idx (zMy M') ∈ zG) ∨ (lk.2.1 ≠ 0 ∧ ((zMy M).cls, idx, zMy M', RX8) ∈ zNest)) := by
  unfold zlkB at hB
  simp only [Bool.and_eq_true, decide_eq_true_eq] at hB
  obtain ⟨⟨h1, h2⟩, h3⟩ := hB
  refine ⟨h2, h3, ?_⟩
  by_cases h0 : lk.2.1 = 0
  · rw [h0] at h1
    exact Or.inl ⟨h0, zw_spec h1⟩
  · split at h1
    · exact absurd (by assumption) h0
    · exact Or.inr ⟨h0, List.mem_of_getElem? (of_decide_eq_true h1)⟩
theorem zs_CN {M' : zM} (F : zFix E M p s m meth args c) (hB : zMB M' = true) (hroom : (zMo M').frames + 1 ≤ (zMo M).frames ∧ 8 + (zMl M' + 11) + (zMo M').locals ≤ (zMo M).locals) {idx : Nat} (hl : ((zMy M).cls, idx, zMy M', RX8) ∈ zNest) :
    va_CN (zMo M) s args (zMy M).cls idx (zMy M') RX8 (zMb M') (zMl M') (zMr M') (zws M') (zMo M') (zMo M').cells (zMo M').slots (zMn M') := by
  obtain ⟨h1, h2, h3, -, -, -, h7⟩ := zMB_spec hB
  exact va_cnB (zMn M') F.2.2.2.2.2.1 (zws_good h2) rfl rfl rfl (F.2.2.2.2.2.2.1.2.1 _ hl) (F.2.2.2.2.2.1 _ h3) h7 hroom
theorem zs_callV {M' : zM} {av rest : List zV} {b idx : Nat} {lk : zLk} {Qa : Option zV → zH → Prop} (F : zFix E M p s m meth args c) (hR : zREL E h H) (hS : va_S (fun q => zElo E ≤ q) s.heap H locs) (hsz : ls.size = zMl M) (hB : zlkB M M' idx lk = true) (hkind : (zMk M').1 = 1) (hnest : lk.2.1 = 0)
    (hb0 : b ≠ 0) (hrecv : ∃ cell : Cell, H[b - 1]? = some cell ∧ cell.vm.isStatics = false ∧ s.vm.findClass (zMy M').cls = some cell.cls) (hn : av.length = zMn M') (hrest : rest.length ≤ 8) (hroom : k + (zMo M').cells ≤ (zMo M).cells ∧ n + (zMo M').slots ≤ (zMo M).slots) (hM : zMet E M' (.inr b :: av) h Qa) (hdg : decode (zMb M) pc = .ok (.invokevirtual idx, 3))
    (kk : ∀ (r : Option zV) (h' : zH) (H1 : Heap) (locs1 : List Loc), Qa r h' → zREL E h' H1 → va_S (fun q => zElo E ≤ q) s.heap H1 locs1 → zWV E M P p e s m args below meth c H1 locs1 (k + (zMo M').cells) (n + (zMo M').slots) (pc + 3) ls ((r.map zval).toList ++ rest.map zval)) :
    zWV E M P p e s m args below meth c H locs k n pc ls ((av.reverse ++ .inr b :: rest).map zval) := by
  obtain ⟨h1, h2, h3⟩ := zlkB_spec hB
  obtain ⟨w1, w2, w3, -, w5, -, w7⟩ := zMB_spec h1
  obtain ⟨i1, i2⟩ := w5 hkind
  have hts := F.2.2.2.2.2.1
  have e1 : zval (.inr b) = .ref (b - 1) := zrf_pos hb0
  have hpre := zs_pre F hR hS (.inr b :: av)
  rw [List.map_cons, e1] at hpre
  rcases h3 with ⟨-, h3⟩ | h3
  · refine zs_run (va_runV (As := av.map zval) (b := b - 1) (C := (zMy M').cls) (zs_fix F) hM ⟨zs_callB F h1 h2 (hts _ h3), hts _ i1, hts _ i2⟩ ⟨hpre.1, hrecv, hpre.2⟩ rfl (by rw [List.length_map]; exact hn) hsz (rest := rest.map zval) ?_ (lv_room (by rw [zs_cat]; exact hrest)) hdg hroom) hS kk
    show _ = _
    rw [List.map_append, List.map_reverse, List.map_cons, e1]
  · exact absurd hnest h3.1
theorem zs_callI {M' : zM} {av rest : List zV} {b idx ci : Nat} {lk : zLk} {Qa : Option zV → zH → Prop} (F : zFix E M p s m meth args c) (hR : zREL E h H) (hS : va_S (fun q => zElo E ≤ q) s.heap H locs) (hsz : ls.size = zMl M) (hB : zlkB M M' idx lk = true) (hkind : (zMk M').1 = 2)
    (hb : zk h b = ci + 1) (hn : av.length = zMn M') (hrest : rest.length ≤ 8) (hroom : k + (zMo M').cells ≤ (zMo M).cells ∧ n + (zMo M').slots ≤ (zMo M).slots) (hM : zMet E M' (.inr b :: av) h Qa) (hdg : decode (zMb M) pc = .ok (.invokespecial idx, 3))
    (kk : ∀ (r : Option zV) (h' : zH) (H1 : Heap) (locs1 : List Loc), Qa r h' → zREL E h' H1 → va_S (fun q => zElo E ≤ q) s.heap H1 locs1 → zWV E M P p e s m args below meth c H1 locs1 (k + (zMo M').cells) (n + (zMo M').slots) (pc + 3) ls ((r.map zval).toList ++ rest.map zval)) :
    zWV E M P p e s m args below meth c H locs k n pc ls ((av.reverse ++ .inr b :: rest).map zval) := by
  obtain ⟨h1, h2, h3⟩ := zlkB_spec hB
  obtain ⟨hb0, -⟩ := hR.pos (a := b) (by omega)
  obtain ⟨w1, w2, w3, -, -, w6, w7⟩ := zMB_spec h1
  obtain ⟨i1, i2, i3⟩ := w6 hkind
  have hts := F.2.2.2.2.2.1
  have e1 : zval (.inr b) = .ref (b - 1) := zrf_pos hb0
  have hpre := zs_pre F hR hS (.inr b :: av)
  rw [List.map_cons, e1] at hpre
  have hst : (av.reverse ++ .inr b :: rest).map zval = (av.map zval).reverse ++ .ref (b - 1) :: rest.map zval := by rw [List.map_append, List.map_reverse, List.map_cons, e1]
  rcases h3 with ⟨-, h3⟩ | ⟨-, h3⟩
  · exact zs_run (va_runI (As := av.map zval) (b := b - 1) (zs_fix F) hM ⟨by rw [← i2]; exact zs_callB F h1 h2 (hts _ h3), i3, hts _ i1⟩ hpre rfl (by rw [List.length_map]; exact hn) hsz (rest := rest.map zval) hst (lv_room (by rw [zs_cat]; exact hrest)) hdg hroom) hS kk
  · exact zs_run (va_runIN (As := av.map zval) (b := b - 1) (host := RX8) (zs_fix F) hM ⟨by rw [← i2]; exact zs_CN F h1 h2 h3, i3, hts _ i1⟩ hpre rfl (by rw [List.length_map]; exact hn) hsz (rest := rest.map zval) hst (lv_room (by rw [zs_cat]; exact hrest)) hdg hroom) hS kk
theorem zs_callS {M' : zM} {av rest : List zV} {idx : Nat} {lk : zLk} {Qa : Option zV → zH → Prop} (F : zFix E M p s m meth args c) (hR : zREL E h H) (hS : va_S (fun q => zElo E ≤ q) s.heap H locs) (hsz : ls.size = zMl M) (hB : zlkB M M' idx lk = true) (hkind : (zMk M').1 = 0)
    (hn : av.length = zMn M') (hrest : rest.length ≤ 8) (hroom : k + (zMo M').cells ≤ (zMo M).cells ∧ n + (zMo M').slots ≤ (zMo M).slots) (hM : zMet E M' av h Qa) (hdg : decode (zMb M) pc = .ok (.invokestatic idx, 3))
    (kk : ∀ (r : Option zV) (h' : zH) (H1 : Heap) (locs1 : List Loc), Qa r h' → zREL E h' H1 → va_S (fun q => zElo E ≤ q) s.heap H1 locs1 → zWV E M P p e s m args below meth c H1 locs1 (k + (zMo M').cells) (n + (zMo M').slots) (pc + 3) ls ((r.map zval).toList ++ rest.map zval)) :
    zWV E M P p e s m args below meth c H locs k n pc ls ((av.reverse ++ rest).map zval) := by
  obtain ⟨h1, h2, h3⟩ := zlkB_spec hB
  obtain ⟨w1, w2, w3, w4, -, -, w7⟩ := zMB_spec h1
  have i1 := w4 hkind
  have hts := F.2.2.2.2.2.1
  have hpre := zs_pre F hR hS av
  have hst : (av.reverse ++ rest).map zval = (av.map zval).reverse ++ rest.map zval := by rw [List.map_append, List.map_reverse]
  rcases h3 with ⟨-, h3⟩ | ⟨-, h3⟩
  · exact zs_run (va_runS (As := av.map zval) (zs_fix F) hM ⟨zs_callB F h1 h2 (hts _ h3), hts _ i1⟩ hpre rfl (by rw [List.length_map]; exact hn) hsz (rest := rest.map zval) hst (lv_room (by rw [zs_cat]; exact hrest)) hdg hroom) hS kk
  · exact zs_run (va_runSN (As := av.map zval) (host := RX8) (zs_fix F) hM ⟨zs_CN F h1 h2 h3, hts _ i1, trivial⟩ hpre rfl (by rw [List.length_map]; exact hn) hsz (rest := rest.map zval) hst (lv_room (by rw [zs_cat]; exact hrest)) hdg hroom) hS kk
theorem zs_new (F : zFix E M p s m meth args c) (hR : zREL E h H) (hS : va_S (fun q => zElo E ≤ q) s.heap H locs) {ci idx t1 t2 t3 : Nat} {st : List Value} (hci : ci < 9) (h1 : zw t1 (.classLink (zMy M).cls idx (zC ci)) = true) (h2 : zw t2 (.instantiable (zC ci) (zN ci)) = true) (h3 : zw t3 (.initialized (zC ci)) = true) (hc : k + 1 ≤ (zMo M).cells) (hs : n + zN ci ≤ (zMo M).slots) (hdg : decode (zMb M) pc = .ok (.new idx, 3))
    (kk : ∀ (H' : Heap), zREL E (znew h (ci + 1) 0) H' → va_S (fun q => zElo E ≤ q) s.heap H' locs → zWV E M P p e s m args below meth c H' locs (k + 1) (n + zN ci) (pc + 3) ls (zrf (zsz h) :: st)) : zWV E M P p e s m args below meth c H locs k n pc ls st := by
  obtain ⟨hx, hb, -, -, hown, hts, hKK, -⟩ := F
  have hKn := hKK.1.1 ci _ (zcl ci hci)
  obtain ⟨r1, r3, r4, r5⟩ := id hR
  have hz0 : zsz h ≠ 0 := by omega
  have hzr : zrf (zsz h) = .ref H.size := (zrf_pos hz0).trans (congrArg Value.ref (show zsz h - 1 = H.size by omega))
  refine W.newcK hx hb hown (hts _ (zw_spec h1)) (hts _ (zw_spec h2)) (hts _ (zw_spec h3)) rfl hdg hc hs hKn.2.1 rfl fun H1 kC hkC e1 z1 o1 => ?_
  rw [← hzr]
  refine kk H1 (hR.push z1 rfl o1 (fun b hb => ?_) ⟨fun cj hcj hkj => ?_, fun j hj hkj => ?_⟩) ⟨by rw [z1]; exact Nat.le_succ_of_le hS.1, fun x h1 h2 => (o1 x (by have := hS.1; omega)).trans (hS.2.1 x h1 h2), hS.2.2⟩
  · simp [znew, zk, zn, zi, zr, zup, hb]
  · have hkj' : zup (zk h) (zsz h) (ci + 1) (zsz h) = cj + 1 := hkj
    have : cj = ci := by simp [zup] at hkj'; omega
    subst this
    have e1' : H1[zsz h - 1]? = some (blank ((zED E).1 cj) kC) := by rw [show zsz h - 1 = H.size by omega]; exact e1
    refine (u_born (zty cj) hts (zws_in cj hcj) hKn hkC e1' (ztyok cj hcj)).to (fun f hf => ?_)
    unfold zfld
    cases hzr : zisr (zty cj f) with
    | true =>
      simp only [if_true]
      rw [show zr (znew h (cj + 1) 0) (zsz h) f = 0 by simp [znew, zr, zup]]
      cases hty : zty cj f <;> rw [hty] at hzr <;> first | (simp [zisr] at hzr; done) | rfl
    | false =>
      rw [ztyb cj hcj f hf hzr]
      simp [znew, zi, zup, defaultValue]
  · have hkj' : zup (zk h) (zsz h) (ci + 1) (zsz h) = 20 + j := hkj
    simp [zup] at hkj'
    omega
theorem zs_newa (F : zFix E M p s m meth args c) (hR : zREL E h H) (hS : va_S (fun q => zElo E ≤ q) s.heap H locs) {j t1 : Nat} {at' : ArrayType} {x : Int32} {st : List Value} (hj : j < 2) (hty : newarray.typeOf at' = zAty j) (h1 : zw t1 (.arrayClass (newarray.typeOf at')) = true) (hx0 : ¬ x < 0) (hx1 : x.toNatClampNeg ≤ 10000) (hc : k + 1 ≤ (zMo M).cells) (hs : n + x.toNatClampNeg ≤ (zMo M).slots) (hdg : decode (zMb M) pc = .ok (.newarray at', 2))
    (kk : ∀ (H' : Heap), zREL E (znew h (20 + j) x.toNatClampNeg) H' → va_S (fun q => zElo E ≤ q) s.heap H' locs → zWV E M P p e s m args below meth c H' locs (k + 1) (n + x.toNatClampNeg) (pc + 2) ls (zrf (zsz h) :: st)) : zWV E M P p e s m args below meth c H locs k n pc ls (.int x :: st) := by
  obtain ⟨hx, hb, -, -, hown, hts, hKK, -⟩ := F
  obtain ⟨r1, r3, r4, r5⟩ := id hR
  have hz0 : zsz h ≠ 0 := by omega
  have hzr : zrf (zsz h) = .ref H.size := (zrf_pos hz0).trans (congrArg Value.ref (show zsz h - 1 = H.size by omega))
  have hbytes : x.toNatClampNeg * componentBytes (newarray.typeOf at') ≤ 536870912 := by
    rw [hty]
    rcases (show j = 0 ∨ j = 1 by omega) with rfl | rfl
    · show _ * 4 ≤ _; omega
    · show _ * 2 ≤ _; omega
  refine va_newaK hx hb (hts _ (zw_spec h1)) rfl hdg rfl hx0 rfl hbytes hc hs rfl fun H1 cA e1 z1 o1 hAr hNm => ?_
  have hcA : cA = zEA E j := by
    have h5 := (hKK.1.2 j _ (zTys_get E (by omega))).2
    rw [hty] at hNm
    rcases (show j = 0 ∨ j = 1 by omega) with rfl | rfl
    · exact Option.some.inj (hNm.symm.trans h5)
    · exact Option.some.inj (hNm.symm.trans h5)
  rw [← hzr]
  refine kk H1 (hR.push z1 rfl o1 (fun b hb => ?_) ⟨fun cj hcj hkj => ?_, fun j' hj' hkj => ?_⟩) ⟨by rw [z1]; exact Nat.le_succ_of_le hS.1, fun x h1 h2 => (o1 x (by have := hS.1; omega)).trans (hS.2.1 x h1 h2), hS.2.2⟩
  · simp [znew, zk, zn, zi, zr, zup, hb]
  · have hkj' : zup (zk h) (zsz h) (20 + j) (zsz h) = cj + 1 := hkj
    simp [zup] at hkj'
    omega
  · have hkj' : zup (zk h) (zsz h) (20 + j) (zsz h) = 20 + j' := hkj
    have : j' = j := by simp [zup] at hkj'; omega
    subst this
    rw [zarr_i hj, show zsz h - 1 = H.size by omega, e1, hcA, vp_cell_i]
    congr 1
    rw [show zn (znew h (20 + j') x.toNatClampNeg) (zsz h) = x.toNatClampNeg by simp [znew, zn, zup]]
    congr 1
    funext q
    rw [show zi (znew h (20 + j') x.toNatClampNeg) (zsz h) q = 0 by simp [znew, zi, zup], hty]
    rcases (show j' = 0 ∨ j' = 1 by omega) with rfl | rfl <;> rfl
theorem zs_anewa (F : zFix E M p s m meth args c) (hR : zREL E h H) (hS : va_S (fun q => zElo E ≤ q) s.heap H locs) {j t1 idx : Nat} {x : Int32} {st : List Value} (hj : 2 ≤ j ∧ j < 8) (h1 : zw t1 (.classLink (zMy M).cls idx (zAC j)) = true) (hx0 : ¬ x < 0) (hx1 : x.toNatClampNeg ≤ 10000) (hc : k + 1 ≤ (zMo M).cells) (hs : n + x.toNatClampNeg ≤ (zMo M).slots) (hdg : decode (zMb M) pc = .ok (.anewarray idx, 3))
    (kk : ∀ (H' : Heap), zREL E (znew h (20 + j) x.toNatClampNeg) H' → va_S (fun q => zElo E ≤ q) s.heap H' locs → zWV E M P p e s m args below meth c H' locs (k + 1) (n + x.toNatClampNeg) (pc + 3) ls (zrf (zsz h) :: st)) : zWV E M P p e s m args below meth c H locs k n pc ls (.int x :: st) := by
  obtain ⟨hx, hb, -, -, hown, hts, hKK, -⟩ := F
  obtain ⟨r1, r3, r4, r5⟩ := id hR
  have hz0 : zsz h ≠ 0 := by omega
  have hzr : zrf (zsz h) = .ref H.size := (zrf_pos hz0).trans (congrArg Value.ref (show zsz h - 1 = H.size by omega))
  refine W.anew hx hb hown (hts _ (zw_spec h1)) (va_AO.use (hKK.2.2.1 j hj.1 hj.2)) rfl hdg rfl hx0 (by omega) hc hs fun cA kA comp f1 f2 f3 f4 => ?_
  generalize hH1 : H.push ({ cls := cA, slots := Array.replicate x.toNatClampNeg .null, vm := .none } : Cell) = H1
  have z1 : H1.size = H.size + 1 := by rw [← hH1, Array.size_push]
  have e1 : H1[H.size]? = some (arrV cA x.toNatClampNeg (fun _ => .null)) := by rw [← hH1, Array.getElem?_push_size, ← arrV_new]
  have o1 : ∀ q : Nat, q < H.size → H1[q]? = H[q]? := fun q hq => by rw [← hH1, Array.getElem?_push, if_neg (Nat.ne_of_lt hq)]
  have hcA : cA = zEA E j := by
    have h5 := (hKK.1.2 j _ (zTys_get E (by omega))).2
    rw [zAty_r hj.1 hj.2] at h5
    obtain ⟨_, _, -, -, -, h6⟩ := h5
    exact Option.some.inj (f1.symm.trans h6)
  rw [← hzr]
  refine kk H1 (hR.push z1 rfl o1 (fun b hb => ?_) ⟨fun cj hcj hkj => ?_, fun j' hj' hkj => ?_⟩) ⟨by rw [z1]; exact Nat.le_succ_of_le hS.1, fun x h1 h2 => (o1 x (by have := hS.1; omega)).trans (hS.2.1 x h1 h2), hS.2.2⟩
  · simp [znew, zk, zn, zi, zr, zup, hb]
  · have hkj' : zup (zk h) (zsz h) (20 + j) (zsz h) = cj + 1 := hkj
    simp [zup] at hkj'
    omega
  · have hkj' : zup (zk h) (zsz h) (20 + j) (zsz h) = 20 + j' := hkj
    have : j' = j := by simp [zup] at hkj'; omega
    subst this
    rw [zarr_r (by omega), show zsz h - 1 = H.size by omega, e1, hcA, vp_cell_q]
    congr 1
    rw [show zn (znew h (20 + j') x.toNatClampNeg) (zsz h) = x.toNatClampNeg by simp [znew, zn, zup]]
    congr 1
    funext q
    rw [show zr (znew h (20 + j') x.toNatClampNeg) (zsz h) q = 0 by simp [znew, zr, zup]]
    rfl
theorem zs_copy (F : zFix E M p s m meth args c) (hR : zREL E h H) (hS : va_S (fun q => zElo E ≤ q) s.heap H locs) (hsz : ls.size = zMl M) {a0 a idx t1 t2 t3 t4 : Nat} {sp dp x : Int32} {rest : List Value} (hk0 : zk h a0 = 20) (hk1 : zk h a = 20)
    (g1 : zw t1 (.methodLink (zMy M).cls idx arraycopyName) = true) (g2 : zw t2 (.native arraycopyName) = true) (g3 : zw t3 (.static arraycopyName) = true) (g4 : zw t4 (.initialized "java/lang/System") = true)
    (h1 : ¬ sp < 0) (h2 : ¬ dp < 0) (h3 : ¬ x < 0) (h4 : sp.toNatClampNeg + x.toNatClampNeg ≤ zn h a0) (h5 : dp.toNatClampNeg + x.toNatClampNeg ≤ zn h a) (hframes : 1 ≤ (zMo M).frames) (hlocals : (rest.map fun v => v.category).sum + (nativeFrameWords "java/lang/System" "arraycopy" 5 + 11) ≤ (zMo M).locals) (hdg : decode (zMb M) pc = .ok (.invokestatic idx, 3))
    (kk : ∀ (H' : Heap) (locs' : List Loc), zREL E (zpa h a (va_cpy (zi h a0) (zi h a) sp.toNatClampNeg dp.toNatClampNeg x.toNatClampNeg)) H' → va_S (fun q => zElo E ≤ q) s.heap H' locs' → zWV E M P p e s m args below meth c H' locs' k n (pc + 3) ls rest) : zWV E M P p e s m args below meth c H locs k n pc ls (.int x :: .int dp :: zrf a :: .int sp :: zrf a0 :: rest) := by
  obtain ⟨hx, hb, hml, -, hown, hts, hKK, -⟩ := F
  obtain ⟨ha0, -⟩ := hR.pos (a := a0) (by omega)
  obtain ⟨ha, hlo⟩ := hR.pos (a := a) (by omega)
  rw [zrf_pos ha0, zrf_pos ha]
  have hc0 := (hR.2.2.2 a0).2 0 (by decide) hk0
  have hc1 := (hR.2.2.2 a).2 0 (by decide) hk1
  rw [zarr_i (by decide)] at hc0 hc1
  have nn : ∀ z : Int32, ¬ z < 0 → z.toInt = (z.toNatClampNeg : Int) := by
    intro z hz
    have hz0 : (0 : Int) ≤ z.toInt := by
      have := Int32.not_lt.mp hz
      simpa using Int32.le_iff_toInt_le.mp this
    show z.toInt = ((z.toInt.toNat : Nat) : Int)
    omega
  intro T hT X
  obtain ⟨-, k0, hk0, cm0, hkk0⟩ := (hKK.1.2 0 _ (zTys_get E (j := 0) (by decide))).1 (zn h a0) (fun j => .int (zi h a0 j))
  obtain ⟨-, k1, hk1', cm1, hkk1⟩ := (hKK.1.2 0 _ (zTys_get E (j := 0) (by decide))).1 (zn h a) (fun j => .int (zi h a j))
  obtain ⟨vm', X', step⟩ := X.arraycopy hx hown (hts _ (zw_spec g1)) (hts _ (zw_spec g2)) (hts _ (zw_spec g3)) (hts _ (zw_spec g4)) (src := a0 - 1) (dst := a - 1) (cs := vp_cell (zEA E 0) (zn h a0, .inl (zi h a0))) (cd := vp_cell (zEA E 0) (zn h a, .inl (zi h a))) (srcPos := sp) (destPos := dp) (n := x) (by rw [hT]; exact hc0) (by rw [hT]; exact hc1)
    (fun _ h => by cases h) (fun _ h => by cases h) (fun h => by cases h) (fun h => by cases h) hk0 hk1' hkk0 hkk1 rfl h1 h2 h3
    (by rw [nn sp h1, nn x h3]; show ¬ _ > ((arrV _ _ _).slots.size : Int); rw [arrV_size]; omega)
    (by rw [nn dp h2, nn x h3]; show ¬ _ > ((arrV _ _ _).slots.size : Int); rw [arrV_size]; omega)
    (fun vm₁ _ i hi => by
      have e : (vp_cell (zEA E 0) (zn h a0, .inl (zi h a0))).slots.getD (sp.toNatClampNeg + i) .null = .int (zi h a0 (sp.toNatClampNeg + i)) := by
        show (arrV _ _ _).slots.getD _ _ = _
        rw [Array.getD_eq_getD_getElem?, arrV_read _ _ (by omega)]
        rfl
      refine ⟨?_, ?_⟩
      · rw [e]
        rfl
      · rw [e]
        exact trivial)
    (g := F0 m pc ls (.int x :: .int dp :: .ref (a - 1) :: .int sp :: .ref (a0 - 1) :: rest)) rfl (by rw [hml]; exact hsz) (rest := rest) rfl (by rw [hb]; exact hdg) hframes (by show 2 * 0 + _ + _ ≤ _; omega)
  have e1 : copied (vp_cell (zEA E 0) (zn h a0, .inl (zi h a0))) (vp_cell (zEA E 0) (zn h a, .inl (zi h a))) sp dp x = vp_cell (zEA E 0) (zn h a, .inl (va_cpy (zi h a0) (zi h a) sp.toNatClampNeg dp.toNatClampNeg x.toNatClampNeg)) := va_copied (fun z => .int z) (zEA E 0) (zEA E 0) (zi h a0) (zi h a) h4
  rw [e1] at X' step
  have hl : a - 1 < H.size := (Array.getElem?_eq_some_iff.mp hc1).1
  generalize hcl : vp_cell (zEA E 0) (zn h a, .inl (va_cpy (zi h a0) (zi h a) sp.toNatClampNeg dp.toNatClampNeg x.toNatClampNeg)) = cl at X' step
  have hheap : ((T.setVm vm').setCell (a - 1) cl).heap = H.setIfInBounds (a - 1) cl := by rw [← hT]; rfl
  have oq : ∀ q : Nat, q ≠ a - 1 → (H.setIfInBounds (a - 1) cl)[q]? = H[q]? := fun q hq => by simp [Array.getElem?_setIfInBounds, Ne.symm hq]
  obtain ⟨t, a1, b1⟩ := kk _ _ (hR.upd (H' := H.setIfInBounds (a - 1) cl) (by simp) rfl rfl a ha oq (fun b hb => ⟨rfl, by simp [zpa, zi, zup, hb], rfl⟩) ⟨fun cj hcj hkj => by (have hkj : zk h a = cj + 1 := hkj); omega, fun j hj hkj => by
      have hkj : zk h a = 20 + j := hkj
      have : j = 0 := by omega
      subst this
      rw [zarr_i (by decide)]
      show (H.setIfInBounds (a - 1) cl)[a - 1]? = some (vp_cell (zEA E 0) (zn h a, .inl (zup (zi h) a _ a)))
      rw [show zup (zi h) a (va_cpy (zi h a0) (zi h a) sp.toNatClampNeg dp.toNatClampNeg x.toNatClampNeg) a = va_cpy (zi h a0) (zi h a) sp.toNatClampNeg dp.toNatClampNeg x.toNatClampNeg by simp [zup], hcl]
      simp [Array.getElem?_setIfInBounds, hl]⟩) ⟨by simp; exact hS.1, fun q g1 g2 => by
      rw [oq q (fun e => g2 (by show zElo E ≤ q; rw [e]; exact hlo))]
      exact hS.2.1 q g1 g2, fun q hq => by
      rcases List.mem_append.mp hq with h | h
      · exact hS.2.2 q h
      · obtain ⟨z, -, hz⟩ := List.mem_map.mp h
        rw [← hz]
        exact hlo⟩ _ hheap X'
  exact ⟨t, step t a1, b1⟩
end ZC
