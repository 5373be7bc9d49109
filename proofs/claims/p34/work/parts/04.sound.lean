def zMB (M : zM) : Bool := plainName (zMy M).cls && zw (zMk M).2.1 (.code (zMy M) (zMb M) (zMl M) (zMr M)) && zw (zMk M).2.2.1 (.initialized (zMy M).cls) &&
  (match (zMk M).1 with
    | 0 => zw (zMk M).2.2.2.1 (.static (zMy M))
    | 1 => zw (zMk M).2.2.2.1 (.instanceMethod (zMy M)) && zw (zMk M).2.2.2.2 (.selects (zMy M).cls (zMy M) (zMy M))
    | _ => zw (zMk M).2.2.2.1 (.instanceMethod (zMy M)) && decide (zMr M = none) && decide ((zMy M).name = "<init>")) &&
  decide ((zMy M).cls ≠ "java/lang/invoke/MethodHandle" ∧ (zMy M).cls ≠ "java/lang/invoke/VarHandle" ∧ (parseMethodDescriptor (zMy M).desc).map (fun d => d.parameters.length) = some (zMn M))
def zlkB (M M' : zM) (idx : Nat) (lk : zLk) : Bool :=
  (match lk.2.1 with
    | 0 => zw lk.2.2.1 (.methodLink (zMy M).cls idx (zMy M'))
    | _ => decide (zNest[lk.2.2.1]? = some ((zMy M).cls, idx, zMy M', RX8))) && zMB M' &&
  decide ((zMo M').frames + 1 ≤ (zMo M).frames ∧ 8 + (zMl M' + 11) + (zMo M').locals ≤ (zMo M).locals)
def zlen (ins : zIns) : Nat := match ins with
  | .bipush _ | .iload _ | .aload _ | .istore _ | .astore _ | .newarray _ | .ldc _ => 2
  | .sipush _ | .iinc _ _ | .goto _ | .ifCond _ _ | .if_icmp _ _ | .ifnull _ | .ifnonnull _ | .getfield _ | .putfield _ | .getstatic _ | .new _ | .anewarray _ | .invokespecial _ | .invokevirtual _ | .invokestatic _ => 3
  | _ => 1
def zentB (M : zM) (pc : Nat) (ins : zIns) (len : Nat) (lk : zLk) : Bool := match ins with
  | .tableswitch dflt lo hi offs => decide (0 ≤ (pc : Int) + dflt) && offs.toList.all (fun o => decide (0 ≤ (pc : Int) + o)) && decide (hi - lo + 1 = (offs.toList.length : Int))
  | .lookupswitch dflt ps => (ps.toList.zip (ps.toList.drop 1)).all (fun (a, next) => decide (a.1 < next.1)) && decide (0 ≤ (pc : Int) + dflt) && ps.toList.all (fun o => decide (0 ≤ (pc : Int) + o.2))
  | _ => decide (len = zlen ins) && (match ins with
    | .bipush i => decide ((Int8.ofInt i).toInt32 = zcst i)
    | .sipush i => decide ((Int16.ofInt i).toInt32 = zcst i)
    | .istore_n j => decide (j.val < zMl M)
    | .istore j => decide (j < zMl M)
    | .astore_n j => decide (j.val < zMl M)
    | .astore j => decide (j < zMl M)
    | .iinc j _ => decide (j < zMl M)
    | .goto off => decide (0 ≤ (pc : Int) + off)
    | .ifCond _ off => decide (0 ≤ (pc : Int) + off)
    | .if_icmp _ off => decide (0 ≤ (pc : Int) + off)
    | .ifnull off => decide (0 ≤ (pc : Int) + off)
    | .ifnonnull off => decide (0 ≤ (pc : Int) + off)
    | .getfield idx => decide (lk.1 < 9 ∧ lk.2.1 < zN lk.1) && zw lk.2.2.1 (.fieldLink (zMy M).cls idx (zT lk.1 lk.2.1).1 (zT lk.1 lk.2.1).2.1 (zT lk.1 lk.2.1).2.2.1)
    | .putfield idx => decide (lk.1 < 9 ∧ lk.2.1 < zN lk.1) && zw lk.2.2.1 (.fieldLink (zMy M).cls idx (zT lk.1 lk.2.1).1 (zT lk.1 lk.2.1).2.1 (zT lk.1 lk.2.1).2.2.1) && (decide ((zT lk.1 lk.2.1).2.2.2 = false) || (decide ((zT lk.1 lk.2.1).2.2.2 = true ∧ (zMy M).name = "<init>" ∧ (zT lk.1 lk.2.1).1 = (zMy M).cls)))
    | .areturn => (match zMr M with | some t => zisr t | none => false)
    | .return_ => decide (zMr M = none)
    | .new idx => decide (lk.1 < 9) && zw lk.2.1 (.classLink (zMy M).cls idx (zC lk.1)) && zw lk.2.2.1 (.instantiable (zC lk.1) (zN lk.1)) && zw lk.2.2.2.1 (.initialized (zC lk.1))
    | .newarray t => decide (lk.1 < 2 ∧ newarray.typeOf t = zAty lk.1) && zw lk.2.1 (.arrayClass (newarray.typeOf t))
    | .anewarray idx => decide (2 ≤ lk.1 ∧ lk.1 < 8) && zw lk.2.1 (.classLink (zMy M).cls idx (zAC lk.1))
    | .invokespecial idx => (match lk.2.2.2.2.2 with
      | none => zw lk.1 (.methodLink (zMy M).cls idx objectInit) && zw lk.2.1 (.instanceMethod objectInit) && zw lk.2.2.1 (.code objectInit ⟨#[0xb1]⟩ 1 none) && decide (1 ≤ (zMo M).frames ∧ 20 ≤ (zMo M).locals)
      | some M' => zlkB M M' idx lk && decide ((zMk M').1 = 2 ∧ lk.1 < 9))
    | .invokevirtual idx => (match lk.2.2.2.2.2 with
      | none => false
      | some M' => zlkB M M' idx lk && decide ((zMk M').1 = 1 ∧ (lk.1 < 9 ∧ zC lk.1 = (zMy M').cls) ∧ lk.2.1 = 0))
    | .invokestatic idx => (match lk.2.2.2.2.2 with
      | none => (match lk.1 with
        | 0 => zw lk.2.1 (.methodLink (zMy M).cls idx Lib.Math.min.name) && zw lk.2.2.1 (.static Lib.Math.min.name) && zw lk.2.2.2.1 (.initialized "java/lang/Math") && zw lk.2.2.2.2.1 (.code Lib.Math.min.name Lib.Math.min.code 2 (some .int)) && decide (1 ≤ (zMo M).frames ∧ 21 ≤ (zMo M).locals)
        | 1 => zw lk.2.1 (.methodLink (zMy M).cls idx Lib.Math.max.name) && zw lk.2.2.1 (.static Lib.Math.max.name) && zw lk.2.2.2.1 (.initialized "java/lang/Math") && zw lk.2.2.2.2.1 (.code Lib.Math.max.name Lib.Math.max.code 2 (some .int)) && decide (1 ≤ (zMo M).frames ∧ 21 ≤ (zMo M).locals)
        | 3 => zw lk.2.1 (.methodLink (zMy M).cls idx yJ9_floorMod_7cf53) && zw lk.2.2.1 (.static yJ9_floorMod_7cf53) && zw lk.2.2.2.1 (.initialized "java/lang/Math") && zw lk.2.2.2.2.1 (.code yJ9_floorMod_7cf53 cJ9_floorMod_7cf53 3 (some .int)) && decide (1 ≤ (zMo M).frames ∧ 22 ≤ (zMo M).locals)
        | _ => zw lk.2.1 (.methodLink (zMy M).cls idx arraycopyName) && zw lk.2.2.1 (.native arraycopyName) && zw lk.2.2.2.1 (.static arraycopyName) && zw lk.2.2.2.2.1 (.initialized "java/lang/System") && decide (1 ≤ (zMo M).frames ∧ 26 ≤ (zMo M).locals))
      | some M' => zlkB M M' idx lk && decide ((zMk M').1 = 0))
    | _ => true)
def zFix (E : zE) (M : zM) (p : Program) (s : State) (m : MethodId) (meth : Method) (args : Array Value) (c : Code) : Prop :=
  p.tables.exec = Jvm.exec ∧ c.code = zMb M ∧ c.maxLocals = zMl M ∧ meth.sig.returnType = zMr M ∧ s.vm.findClass (zMy M).cls = some m.cls ∧ (∀ w ∈ zG, w.before args s = true) ∧ zKK E s ∧ meth.locks = false ∧ meth.name = (zMy M).name
abbrev zWV (E : zE) (M : zM) (P : Array Value → State → Outcome → State → Prop) (p : Program) (e : Env) (s : State) (m : MethodId) (args : Array Value) (below : List Frame) (meth : Method) (c : Code) (H : Heap) (locs : List Loc) (k n pc : Nat) (ls : Array Slot) (st : List Value) : Prop :=
  W p (zEl E) e (zMo M) s m args below meth c H locs k n (MQ below P args s (zMo M).cells (zMo M).slots (fun q => zElo E ≤ q)) (F0 m pc ls st)
abbrev zWW (E : zE) (M : zM) (Q : Option zV → zH → Prop) (p : Program) (e : Env) (s : State) (m : MethodId) (args : Array Value) (below : List Frame) (meth : Method) (c : Code) (H : Heap) (locs : List Loc) (k n pc : Nat) (ls : Array Slot) (st : List Value) : Prop := zWV E M (zQc E Q) p e s m args below meth c H locs k n pc ls st
def zJ (E : zE) (M : zM) (Q : Option zV → zH → Prop) (pc : Nat) (L : List (Option zV)) (st : List zV) (h : zH) (k n : Nat) : Prop :=
  L.length = zMl M → k ≤ (zMo M).cells → n ≤ (zMo M).slots → ∀ (p : Program) (e : Env) (s : State) (m : MethodId) (args : Array Value) (below : List Frame) (meth : Method) (c : Code), zFix E M p s m meth args c → ∀ (H : Heap) (locs : List Loc) (ls : Array Slot), zREL E h H → va_S (fun q => zElo E ≤ q) s.heap H locs → zL ls (zMl M) L →
    zWW E M Q p e s m args below meth c H locs k n pc ls (st.map zval)
theorem zREL.pos {E : zE} {h : zH} {H : Heap} (hR : zREL E h H) {a : Nat} (hk : zk h a ≠ 0) : a ≠ 0 ∧ zElo E ≤ a - 1 := by
  obtain ⟨-, -, h2, -⟩ := hR
  have := h2 a hk
  omega
theorem zREL.upd {E : zE} {h h' : zH} {H H' : Heap} (hR : zREL E h H) (hs : H'.size = H.size) (e1 : zsz h' = zsz h) (e2 : zk h' = zk h) (a : Nat) (ha : a ≠ 0) (ho : ∀ q, q ≠ a - 1 → H'[q]? = H[q]?) (hsame : ∀ b, b ≠ a → zn h' b = zn h b ∧ zi h' b = zi h b ∧ zr h' b = zr h b) (hc : zcell E h' a H') : zREL E h' H' := by
  obtain ⟨h1, h3, h4, h5⟩ := hR
  refine ⟨by rw [hs, e1]; exact h1, by rw [e1]; exact h3, fun b hb => by rw [e1]; exact h4 b (by rw [← e2]; exact hb), fun b => ?_⟩
  by_cases hb : b = a
  · rw [hb]; exact hc
  · obtain ⟨g1, g2, g3⟩ := hsame b hb
    refine ⟨fun ci hci hk => ?_, fun j hj hk => ?_⟩
    · rw [e2] at hk
      have hf : zfld h' b ci = zfld h b ci := by funext k; unfold zfld; rw [g2, g3]
      rw [hf]
      have := h4 b (by omega)
      exact ((h5 b).1 ci hci hk).kept (ho (b - 1) (by omega))
    · rw [e2] at hk
      have hf : zarr h' b j = zarr h b j := by unfold zarr; rw [g1, g2, g3]
      have := h4 b (by omega)
      rw [hf, ho (b - 1) (by omega)]
      exact (h5 b).2 j hj hk
theorem zREL.push {E : zE} {h h' : zH} {H H' : Heap} (hR : zREL E h H) (hs : H'.size = H.size + 1) (e1 : zsz h' = zsz h + 1) (ho : ∀ q, q < H.size → H'[q]? = H[q]?) (hsame : ∀ b, b ≠ zsz h → zk h' b = zk h b ∧ zn h' b = zn h b ∧ zi h' b = zi h b ∧ zr h' b = zr h b) (hc : zcell E h' (zsz h) H') : zREL E h' H' := by
  obtain ⟨h1, h3, h4, h5⟩ := hR
  refine ⟨by rw [hs, e1, h1], by omega, fun b hb => ?_, fun b => ?_⟩
  · by_cases hb' : b = zsz h
    · omega
    · rw [(hsame b hb').1] at hb
      have := h4 b hb
      omega
  · by_cases hb : b = zsz h
    · rw [hb]; exact hc
    · obtain ⟨g0, g1, g2, g3⟩ := hsame b hb
      refine ⟨fun ci hci hk => ?_, fun j hj hk => ?_⟩
      · rw [g0] at hk
        have hf : zfld h' b ci = zfld h b ci := by funext k; unfold zfld; rw [g2, g3]
        rw [hf]
        have := h4 b (by omega)
        exact ((h5 b).1 ci hci hk).kept (ho (b - 1) (by omega))
      · rw [g0] at hk
        have hf : zarr h' b j = zarr h b j := by unfold zarr; rw [g1, g2, g3]
        have := h4 b (by omega)
        rw [hf, ho (b - 1) (by omega)]
        exact (h5 b).2 j hj hk
section ZS
variable {E : zE} {M : zM} {P : Array Value → State → Outcome → State → Prop} {p : Program} {e : Env} {s : State} {m : MethodId} {args : Array Value} {below : List Frame} {meth : Method} {c : Code} {H : Heap} {locs : List Loc} {k n pc : Nat} {ls : Array Slot} {st : List Value} {h : zH}
theorem zs_get (F : zFix E M p s m meth args c) (hR : zREL E h H) {a ci f idx t : Nat} (hci : ci < 9) (hf : f < zN ci) (hl : zw t (.fieldLink (zMy M).cls idx (zT ci f).1 (zT ci f).2.1 (zT ci f).2.2.1) = true) (hk : zk h a = ci + 1) (hdg : decode (zMb M) pc = .ok (.getfield idx, 3))
    (kk : zWV E M P p e s m args below meth c H locs k n (pc + 3) ls (zfld h a ci f :: st)) : zWV E M P p e s m args below meth c H locs k n pc ls (zrf a :: st) := by
  obtain ⟨hx, hb, -, -, hown, hts, hKK, -⟩ := F
  obtain ⟨ha0, -⟩ := hR.pos (a := a) (by omega)
  rw [zrf_pos ha0]
  obtain ⟨hS', hfc, kC, hkC, hkind⟩ := hKK.1.1 ci _ (zcl ci hci)
  obtain ⟨cf, kf, fi, fd, hi, hsl⟩ := hS' f hf
  obtain ⟨cell, q1, q2, q3, q4⟩ := (hR.2.2.2 a).1 ci hci hk
  refine W.getf hx hb hown (hts _ (zw_spec hl)) hi (u_facts hfc hkC (u_lays hts (zws_in ci hci) hf) hi).1 q1 (by rw [q3]; exact fun h => by cases h) (v := zfld h a ci f) ?_ rfl rfl hdg kk
  rw [hsl, q4 f hf]
theorem zs_apart (F : zFix E M p s m meth args c) {ci : Nat} (hci : ci < 9) : ∀ x y, x < zN ci → y < zN ci → x ≠ y → (zED E).2 ci x ≠ (zED E).2 ci y :=
  va_apart (own := (zMy M).cls) F.2.2.2.2.2.1 (zws_in ci hci) (zty ci) (ztyok ci hci) (znm ci hci) F.2.2.2.2.2.2.1.1 (zcl ci hci)
theorem zfld_upd_i {h : zH} {a ci f : Nat} {x : Int32} (hr : zisr (zty ci f) = false) (j : Nat) : updV (zfld h a ci) f (.int x) j = zfld (zpi h a f x) a ci j := by
  by_cases hj : j = f
  · subst hj
    simp [updV, zfld, hr, zpi, zi, zup2]
  · simp [updV, zfld, zpi, zi, zr, zup2, hj]
theorem zfld_upd_r {h : zH} {a ci f : Nat} {x : Nat} (hr : zisr (zty ci f) = true) (j : Nat) : updV (zfld h a ci) f (zrf x) j = zfld (zpr h a f x) a ci j := by
  by_cases hj : j = f
  · subst hj
    simp [updV, zfld, hr, zpr, zr, zup2]
  · simp [updV, zfld, zpr, zi, zr, zup2, hj]
theorem zpi_same (h : zH) (a f : Nat) (x : Int32) : ∀ b, b ≠ a → zn (zpi h a f x) b = zn h b ∧ zi (zpi h a f x) b = zi h b ∧ zr (zpi h a f x) b = zr h b := by
  intro b hb
  refine ⟨rfl, ?_, rfl⟩
  funext j
  simp [zpi, zi, zup2, hb]
theorem zpr_same (h : zH) (a f : Nat) (x : Nat) : ∀ b, b ≠ a → zn (zpr h a f x) b = zn h b ∧ zi (zpr h a f x) b = zi h b ∧ zr (zpr h a f x) b = zr h b := by
  intro b hb
  refine ⟨rfl, rfl, ?_⟩
  funext j
  simp [zpr, zr, zup2, hb]
theorem zrf_fits (t : FieldType) (ht : zisr t = true) (x : Nat) : narrow t (zrf x) = zrf x ∧ fits t (zrf x) = true := by
  cases t <;> first | (simp [zisr] at ht; done) | (rcases zrf_cases x with ⟨-, hx⟩ | ⟨-, hx⟩ <;> rw [hx] <;> exact ⟨rfl, rfl⟩)
/-- a field's store, with what the new heap is -/
theorem zs_put0 (F : zFix E M p s m meth args c) (hR : zREL E h H) (hS : va_S (fun q => zElo E ≤ q) s.heap H locs) {a ci f idx t : Nat} (hci : ci < 9) (hf : f < zN ci) (hl : zw t (.fieldLink (zMy M).cls idx (zT ci f).1 (zT ci f).2.1 (zT ci f).2.2.1) = true) (hk : zk h a = ci + 1)
    (hfin : (zT ci f).2.2.2 = false ∨ ((zT ci f).2.2.2 = true ∧ (zMy M).name = "<init>" ∧ (zT ci f).1 = (zMy M).cls)) {v : Value} (hn : narrow (zty ci f) v = v) (hfit : fits (zty ci f) v = true) {h' : zH} (e1 : zsz h' = zsz h) (e2 : zk h' = zk h) (hsame : ∀ b, b ≠ a → zn h' b = zn h b ∧ zi h' b = zi h b ∧ zr h' b = zr h b) (hu : ∀ j, updV (zfld h a ci) f v j = zfld h' a ci j) (hdg : decode (zMb M) pc = .ok (.putfield idx, 3))
    (kk : ∀ (H' : Heap) (locs' : List Loc), zREL E h' H' → va_S (fun q => zElo E ≤ q) s.heap H' locs' → zWV E M P p e s m args below meth c H' locs' k n (pc + 3) ls st) : zWV E M P p e s m args below meth c H locs k n pc ls (v :: zrf a :: st) := by
  have hap := zs_apart F hci
  obtain ⟨hx, hb, -, -, hown, hts, hKK, -, hnm⟩ := F
  obtain ⟨ha0, hlo⟩ := hR.pos (a := a) (by omega)
  rw [zrf_pos ha0]
  obtain ⟨hS', hfc, kC, hkC, hkind⟩ := hKK.1.1 ci _ (zcl ci hci)
  obtain ⟨cf, kf, fi, fd, hi, hsl⟩ := hS' f hf
  obtain ⟨cell, q1, q2, q3, q4⟩ := (hR.2.2.2 a).1 ci hci hk
  have hlink := hts _ (zw_spec hl)
  have hst := (u_facts hfc hkC (u_lays hts (zws_in ci hci) hf) hi).1
  have hlay := hts _ (zws_in ci hci _ (u_in_lay hf))
  have fin : ∀ (H' : Heap), H'[a - 1]? = some (cell.setSlot fd.slot v) → H'.size = H.size → (∀ q, q ≠ a - 1 → H'[q]? = H[q]?) → zWV E M P p e s m args below meth c H' (locs ++ [⟨a - 1, fd.slot⟩]) k n (pc + 3) ls st := by
    intro H' g1 g2 g3
    rw [hsl] at g1
    refine kk H' _ (hR.upd g2 e1 e2 a ha0 g3 hsame ⟨fun cj hcj hkj => ?_, fun j hj hkj => ?_⟩) (hS.put g2 g3 hlo)
    · have : cj = ci := by rw [e2] at hkj; omega
      subst this
      exact t_OB.to (V := updV (zfld h a cj) f v) ⟨_, g1, q2, q3, t_set q4 hap hf v⟩ (fun j _ => hu j)
    · rw [e2] at hkj
      omega
  rcases hfin with hfin | ⟨hfin, hin2, hdecl⟩
  · unfold u_lay at hlay
    rw [if_neg (by rw [hfin]; decide)] at hlay
    have h6 := u_store hfc hkC hkind hlay hi (ztyok ci hci f hf) hn hfit
    exact W.putK hx hb (f := fd) ⟨hown, hlink, ⟨_, _, _, hi⟩, hst⟩ (by rw [q2]; exact h6) q1 q3 (by rw [hsl]; exact k2_hasslot (q4 f hf)) rfl rfl hdg fin
  · unfold u_lay at hlay
    rw [if_pos hfin] at hlay
    have hcf : m.cls = cf := by
      obtain ⟨_, _, c', _, _, _, -, -, hf', -, -, -, hown2, -⟩ := Cond.laysFinal_spec hlay
      have e1 : c' = cf := by have := hi.symm.trans hf'; simp at this; exact this.1.symm
      rw [hdecl] at hown2
      rw [← e1]; exact Option.some.inj (hown.symm.trans hown2)
    have h6 := u_fits hfc hkC hkind (Or.inr hlay) hi (ztyok ci hci f hf) hn hfit
    exact W.putFinK hx hb hown hlink hi hst hcf (by rw [hnm]; exact hin2) (by rw [q2]; exact h6) q1 q3 (by rw [hsl]; exact k2_hasslot (q4 f hf)) rfl rfl hdg fin
theorem zarr_i {h : zH} {a j : Nat} (hj : j < 2) : zarr h a j = (zn h a, .inl (zi h a)) := by unfold zarr; rw [if_pos hj]
theorem zarr_r {h : zH} {a j : Nat} (hj : ¬ j < 2) : zarr h a j = (zn h a, .inr (.inr (.inr (.inr (fun i => zo (zr h a i)))))) := by unfold zarr; rw [if_neg hj]
theorem zs_iald (F : zFix E M p s m meth args c) (hR : zREL E h H) {a : Nat} {i : Int32} (hk : zk h a = 20) (hin : vp_in i (zn h a)) (hdg : decode (zMb M) pc = .ok (.iaload, 1))
    (kk : zWV E M P p e s m args below meth c H locs k n (pc + 1) ls (.int (zi h a i.toNatClampNeg) :: st)) : zWV E M P p e s m args below meth c H locs k n pc ls (.int i :: zrf a :: st) := by
  obtain ⟨hx, hb, -, -, -, -, hKK, -⟩ := F
  obtain ⟨ha0, -⟩ := hR.pos (a := a) (by omega)
  rw [zrf_pos ha0]
  have hc := (hR.2.2.2 a).2 0 (by decide) hk
  rw [zarr_i (by decide)] at hc
  exact va_iald (ws := [(a - 1, .inl (zEA E 0, zn h a, .inl (zi h a)))]) (D := zED E) (cl := vwCl) (tys := zTys E) hx hb hKK.1 (fun k q hq => by cases k with | zero => cases hq; exact hc | succ k => simp at hq) 0 0 rfl (zTys_get E (j := 0) (by decide)) hin hdg kk
theorem zs_cald (F : zFix E M p s m meth args c) (hR : zREL E h H) {a : Nat} {i : Int32} (hk : zk h a = 21) (hin : vp_in i (zn h a)) (hdg : decode (zMb M) pc = .ok (.caload, 1))
    (kk : zWV E M P p e s m args below meth c H locs k n (pc + 1) ls (.int (zi h a i.toNatClampNeg) :: st)) : zWV E M P p e s m args below meth c H locs k n pc ls (.int i :: zrf a :: st) := by
  obtain ⟨hx, hb, -, -, -, -, hKK, -⟩ := F
  obtain ⟨ha0, -⟩ := hR.pos (a := a) (by omega)
  rw [zrf_pos ha0]
  have hc := (hR.2.2.2 a).2 1 (by decide) hk
  rw [zarr_i (by decide)] at hc
  exact va_cald (ws := [(a - 1, .inl (zEA E 1, zn h a, .inl (zi h a)))]) (D := zED E) (cl := vwCl) (tys := zTys E) hx hb hKK.1 (fun k q hq => by cases k with | zero => cases hq; exact hc | succ k => simp at hq) 0 1 rfl (zTys_get E (j := 1) (by decide)) hin hdg kk
theorem zAty_r {j : Nat} (h1 : 2 ≤ j) (h2 : j < 8) : zAty j = .object (zAC j) := by
  rcases (show j = 2 ∨ j = 3 ∨ j = 4 ∨ j = 5 ∨ j = 6 ∨ j = 7 by omega) with rfl | rfl | rfl | rfl | rfl | rfl <;> rfl
theorem zs_aald (F : zFix E M p s m meth args c) (hR : zREL E h H) {a : Nat} {i : Int32} (hk : 22 ≤ zk h a ∧ zk h a < 28) (hin : vp_in i (zn h a)) (hdg : decode (zMb M) pc = .ok (.aaload, 1))
    (kk : zWV E M P p e s m args below meth c H locs k n (pc + 1) ls (zrf (zr h a i.toNatClampNeg) :: st)) : zWV E M P p e s m args below meth c H locs k n pc ls (.int i :: zrf a :: st) := by
  obtain ⟨hx, hb, -, -, -, -, hKK, -⟩ := F
  obtain ⟨ha0, -⟩ := hR.pos (a := a) (by omega)
  rw [zrf_pos ha0]
  obtain ⟨j, hj⟩ : ∃ j, j = zk h a - 20 := ⟨_, rfl⟩
  have hc := (hR.2.2.2 a).2 j (by omega) (by omega)
  rw [zarr_r (by omega)] at hc
  exact va_aldq (ws := [(a - 1, .inl (zEA E j, zn h a, .inr (.inr (.inr (.inr (fun i => zo (zr h a i)))))))]) (C := zAC j) (D := zED E) (cl := vwCl) (tys := zTys E) hx hb hKK.1 (fun k q hq => by cases k with | zero => cases hq; exact hc | succ k => simp at hq) 0 j rfl (by rw [zTys_get E (by omega), zAty_r (by omega) (by omega)]) hin hdg kk
theorem zs_iast (F : zFix E M p s m meth args c) (hR : zREL E h H) (hS : va_S (fun q => zElo E ≤ q) s.heap H locs) {a : Nat} {i x : Int32} (hk : zk h a = 20) (hin : vp_in i (zn h a)) (hdg : decode (zMb M) pc = .ok (.iastore, 1))
    (kk : ∀ (H' : Heap) (locs' : List Loc), zREL E (zpi h a i.toNatClampNeg x) H' → va_S (fun q => zElo E ≤ q) s.heap H' locs' → zWV E M P p e s m args below meth c H' locs' k n (pc + 1) ls st) : zWV E M P p e s m args below meth c H locs k n pc ls (.int x :: .int i :: zrf a :: st) := by
  obtain ⟨hx, hb, -, -, -, -, hKK, -⟩ := F
  obtain ⟨ha0, hlo⟩ := hR.pos (a := a) (by omega)
  rw [zrf_pos ha0]
  have hc := (hR.2.2.2 a).2 0 (by decide) hk
  rw [zarr_i (by decide)] at hc
  refine W.iast hx hb hc ((hKK.1.2 0 _ (zTys_get E (j := 0) (by decide))).1 (zn h a) (fun j => .int (zi h a j))) (fun q => by cases q) (by show ¬ (i < 0 ∨ (arrV _ _ _).slots.size ≤ _); rw [arrV_size]; exact hin) rfl rfl hdg fun H1 g1 g2 g3 => ?_
  refine kk H1 _ (hR.upd g2 rfl rfl a ha0 g3 (zpi_same h a _ x) ⟨fun cj hcj hkj => ?_, fun j hj hkj => ?_⟩) (hS.put g2 g3 hlo)
  · have hkj : zk h a = cj + 1 := hkj
    omega
  · have hkj : zk h a = 20 + j := hkj
    have : j = 0 := by omega
    subst this
    rw [zarr_i (by decide), g1]
    rw [vp_cell_i, vp_cell_i, arrV_store]
    congr 2
    funext q
    by_cases hq : q = i.toNatClampNeg
    · subst hq
      simp [updV, zpi, zi, zup2]
    · simp [updV, zpi, zi, zup2, hq]
theorem zs_cast (F : zFix E M p s m meth args c) (hR : zREL E h H) (hS : va_S (fun q => zElo E ≤ q) s.heap H locs) {a : Nat} {i x : Int32} (hk : zk h a = 21) (hin : vp_in i (zn h a)) (hdg : decode (zMb M) pc = .ok (.castore, 1))
    (kk : ∀ (H' : Heap) (locs' : List Loc), zREL E (zpi h a i.toNatClampNeg (vp_nar .char x)) H' → va_S (fun q => zElo E ≤ q) s.heap H' locs' → zWV E M P p e s m args below meth c H' locs' k n (pc + 1) ls st) : zWV E M P p e s m args below meth c H locs k n pc ls (.int x :: .int i :: zrf a :: st) := by
  obtain ⟨hx, hb, -, -, -, -, hKK, -⟩ := F
  obtain ⟨ha0, hlo⟩ := hR.pos (a := a) (by omega)
  rw [zrf_pos ha0]
  have hc := (hR.2.2.2 a).2 1 (by decide) hk
  rw [zarr_i (by decide)] at hc
  refine W.cast hx hb hc ((hKK.1.2 1 _ (zTys_get E (j := 1) (by decide))).1 (zn h a) (fun j => .int (zi h a j))) (fun q => by cases q) (by show ¬ (i < 0 ∨ (arrV _ _ _).slots.size ≤ _); rw [arrV_size]; exact hin) rfl rfl hdg fun H1 g1 g2 g3 => ?_
  refine kk H1 _ (hR.upd g2 rfl rfl a ha0 g3 (zpi_same h a _ _) ⟨fun cj hcj hkj => ?_, fun j hj hkj => ?_⟩) (hS.put g2 g3 hlo)
  · have hkj : zk h a = cj + 1 := hkj
    omega
  · have hkj : zk h a = 20 + j := hkj
    have : j = 1 := by omega
    subst this
    rw [zarr_i (by decide), g1]
    rw [vp_cell_i, vp_cell_i, show narrow .char (.int x) = .int (vp_nar .char x) from rfl, arrV_store]
    congr 2
    funext q
    by_cases hq : q = i.toNatClampNeg
    · subst hq
      simp [updV, zpi, zi, zup2]
    · simp [updV, zpi, zi, zup2, hq]
theorem zAk_C {j : Nat} (h1 : 2 ≤ j) (h2 : j < 8) : zAk j < 9 ∧ zC (zAk j) = zAC j := by
  rcases (show j = 2 ∨ j = 3 ∨ j = 4 ∨ j = 5 ∨ j = 6 ∨ j = 7 by omega) with rfl | rfl | rfl | rfl | rfl | rfl <;> exact ⟨by decide, rfl⟩
theorem zs_aast (F : zFix E M p s m meth args c) (hR : zREL E h H) (hS : va_S (fun q => zElo E ≤ q) s.heap H locs) {a x : Nat} {i : Int32} (hk : 22 ≤ zk h a ∧ zk h a < 28) (hin : vp_in i (zn h a)) (hxk : x = 0 ∨ zk h x = zAk (zk h a - 20) + 1) (hdg : decode (zMb M) pc = .ok (.aastore, 1))
    (kk : ∀ (H' : Heap) (locs' : List Loc), zREL E (zpr h a i.toNatClampNeg x) H' → va_S (fun q => zElo E ≤ q) s.heap H' locs' → zWV E M P p e s m args below meth c H' locs' k n (pc + 1) ls st) : zWV E M P p e s m args below meth c H locs k n pc ls (zrf x :: .int i :: zrf a :: st) := by
  obtain ⟨hx, hb, -, -, -, -, hKK, -⟩ := F
  obtain ⟨ha0, hlo⟩ := hR.pos (a := a) (by omega)
  rw [zrf_pos ha0]
  obtain ⟨j, hj⟩ : ∃ j, j = zk h a - 20 := ⟨_, rfl⟩
  have hc := (hR.2.2.2 a).2 j (by omega) (by omega)
  rw [zarr_r (by omega)] at hc
  have hlt : i.toNatClampNeg < zn h a := Nat.not_le.mp fun q => hin (Or.inr q)
  have h0 : ¬ i < 0 := fun q => hin (Or.inl q)
  have hty := hKK.1.2 j _ (zTys_get E (by omega))
  rw [zAty_r (by omega) (by omega)] at hty
  have fin : ∀ (H' : Heap), H'[a - 1]? = some ((vp_cell (zEA E j) (zn h a, .inr (.inr (.inr (.inr (fun i => zo (zr h a i))))))).setSlot i.toNatClampNeg (zrf x)) → H'.size = H.size → (∀ q, q ≠ a - 1 → H'[q]? = H[q]?) → zWV E M P p e s m args below meth c H' (locs ++ [⟨a - 1, i.toNatClampNeg⟩]) k n (pc + 1) ls st := by
    intro H1 g1 g2 g3
    refine kk H1 _ (hR.upd g2 rfl rfl a ha0 g3 (zpr_same h a _ x) ⟨fun cj hcj hkj => ?_, fun j' hj' hkj => ?_⟩) (hS.put g2 g3 hlo)
    · have hkj : zk h a = cj + 1 := hkj
      omega
    · have hkj : zk h a = 20 + j' := hkj
      have : j' = j := by omega
      subst this
      rw [zarr_r (by omega), g1]
      rw [vp_cell_q, vp_cell_q, arrV_store]
      congr 2
      funext q
      by_cases hq : q = i.toNatClampNeg
      · subst hq
        simp [updV, zpr, zr, zup2, zrf]
      · simp [updV, zpr, zr, zup2, hq]
  rcases hxk with hx0 | hxk
  · subst hx0
    exact va_WaastN hx hb hc (hty.1 (zn h a) _) (fun q => by cases q) (by show ¬ (i < 0 ∨ (arrV _ _ _).slots.size ≤ _); rw [arrV_size]; exact hin) rfl rfl hdg fin
  · obtain ⟨hx0, -⟩ := hR.pos (a := x) (by omega)
    rw [← hj] at hxk
    obtain ⟨hA1, hA2⟩ := zAk_C (j := j) (by omega) (by omega)
    obtain ⟨cellV, v1, v2, v3, -⟩ := (hR.2.2.2 x).1 (zAk j) hA1 hxk
    have hcls := (hKK.1.1 (zAk j) _ (zcl _ hA1)).2
    obtain ⟨kA, comp, k1, k2, k3, -⟩ := hty.2
    rw [← hA2] at k3
    have hcomp : comp = (zED E).1 (zAk j) := Option.some.inj (k3.symm.trans hcls.1)
    subst hcomp
    obtain ⟨kC, hkC, -⟩ := hcls.2
    rw [zrf_pos hx0] at fin ⊢
    exact W.aast hx hb hc (fun q h => by cases h) (fun h => by cases h) k1 k2 rfl hkC ⟨h0, by show _ < (arrV _ _ _).slots.size; rw [arrV_size]; exact hlt⟩ v1 (fun q h => by rw [v3] at h; cases h) (by rw [v2]; exact hkC) (by rw [v2]; exact va_assign hcls) rfl rfl hdg fin
end ZS
