abbrev zIns : Type := Jvm.ClassFile.Instr
abbrev zLk : Type := Nat × Nat × Nat × Nat × Nat × Option zM
abbrev zKt : Type := Nat → List (Option zV) → List zV → zH → Nat → Nat → Prop
def zcst (n : Int) : Int32 := match n with
  | .ofNat m => nI m
  | .negSucc m => Int32.ofInt (.negSucc m)
theorem zcst_eq (n : Int) : Int32.ofInt n = zcst n := by
  cases n with
  | ofNat m => exact Int32.toBitVec_inj.mp rfl
  | negSucc m => rfl
def zt (pc : Nat) (off : Int) : Nat := ((pc : Int) + off).toNat
theorem zt_spec {pc : Nat} {off : Int} (h : 0 ≤ (pc : Int) + off) : (pc : Int) + off = (zt pc off : Int) := by unfold zt; omega
def zgi (L : List (Option zV)) (i : Nat) (f : Int32 → Prop) : Prop := match L[i]? with
  | some (some (.inl x)) => f x
  | _ => False
theorem zgi_spec {L : List (Option zV)} {i : Nat} {f : Int32 → Prop} (h : zgi L i f) : ∃ x, L[i]? = some (some (.inl x)) ∧ f x := by
  unfold zgi at h; split at h
  · exact ⟨_, by assumption, h⟩
  · exact h.elim
def zga (L : List (Option zV)) (i : Nat) (f : Nat → Prop) : Prop := match L[i]? with
  | some (some (.inr x)) => f x
  | _ => False
theorem zga_spec {L : List (Option zV)} {i : Nat} {f : Nat → Prop} (h : zga L i f) : ∃ x, L[i]? = some (some (.inr x)) ∧ f x := by
  unfold zga at h; split at h
  · exact ⟨_, by assumption, h⟩
  · exact h.elim
def z1i (st : List zV) (f : Int32 → List zV → Prop) : Prop := match st with
  | .inl x :: st => f x st
  | _ => False
theorem z1i_spec {st : List zV} {f : Int32 → List zV → Prop} (h : z1i st f) : ∃ x st', st = .inl x :: st' ∧ f x st' := by
  unfold z1i at h; split at h
  · exact ⟨_, _, rfl, h⟩
  · exact h.elim
def z2i (st : List zV) (f : Int32 → Int32 → List zV → Prop) : Prop := match st with
  | .inl y :: .inl x :: st => f y x st
  | _ => False
theorem z2i_spec {st : List zV} {f : Int32 → Int32 → List zV → Prop} (h : z2i st f) : ∃ y x st', st = .inl y :: .inl x :: st' ∧ f y x st' := by
  unfold z2i at h; split at h
  · exact ⟨_, _, _, rfl, h⟩
  · exact h.elim
def z1a (st : List zV) (f : Nat → List zV → Prop) : Prop := match st with
  | .inr x :: st => f x st
  | _ => False
theorem z1a_spec {st : List zV} {f : Nat → List zV → Prop} (h : z1a st f) : ∃ x st', st = .inr x :: st' ∧ f x st' := by
  unfold z1a at h; split at h
  · exact ⟨_, _, rfl, h⟩
  · exact h.elim
def z1 (st : List zV) (f : zV → List zV → Prop) : Prop := match st with
  | v :: st => f v st
  | _ => False
theorem z1_spec {st : List zV} {f : zV → List zV → Prop} (h : z1 st f) : ∃ v st', st = v :: st' ∧ f v st' := by
  unfold z1 at h; split at h
  · exact ⟨_, _, rfl, h⟩
  · exact h.elim
def z2 (st : List zV) (f : zV → zV → List zV → Prop) : Prop := match st with
  | v :: w :: st => f v w st
  | _ => False
theorem z2_spec {st : List zV} {f : zV → zV → List zV → Prop} (h : z2 st f) : ∃ v w st', st = v :: w :: st' ∧ f v w st' := by
  unfold z2 at h; split at h
  · exact ⟨_, _, _, rfl, h⟩
  · exact h.elim
def zia (st : List zV) (f : Int32 → Nat → List zV → Prop) : Prop := match st with
  | .inl i :: .inr a :: st => f i a st
  | _ => False
theorem zia_spec {st : List zV} {f : Int32 → Nat → List zV → Prop} (h : zia st f) : ∃ i a st', st = .inl i :: .inr a :: st' ∧ f i a st' := by
  unfold zia at h; split at h
  · exact ⟨_, _, _, rfl, h⟩
  · exact h.elim
def ziia (st : List zV) (f : Int32 → Int32 → Nat → List zV → Prop) : Prop := match st with
  | .inl x :: .inl i :: .inr a :: st => f x i a st
  | _ => False
theorem ziia_spec {st : List zV} {f : Int32 → Int32 → Nat → List zV → Prop} (h : ziia st f) : ∃ x i a st', st = .inl x :: .inl i :: .inr a :: st' ∧ f x i a st' := by
  unfold ziia at h; split at h
  · exact ⟨_, _, _, _, rfl, h⟩
  · exact h.elim
def zaia (st : List zV) (f : Nat → Int32 → Nat → List zV → Prop) : Prop := match st with
  | .inr x :: .inl i :: .inr a :: st => f x i a st
  | _ => False
theorem zaia_spec {st : List zV} {f : Nat → Int32 → Nat → List zV → Prop} (h : zaia st f) : ∃ x i a st', st = .inr x :: .inl i :: .inr a :: st' ∧ f x i a st' := by
  unfold zaia at h; split at h
  · exact ⟨_, _, _, _, rfl, h⟩
  · exact h.elim
def zva (st : List zV) (f : zV → Nat → List zV → Prop) : Prop := match st with
  | v :: .inr a :: st => f v a st
  | _ => False
theorem zva_spec {st : List zV} {f : zV → Nat → List zV → Prop} (h : zva st f) : ∃ v a st', st = v :: .inr a :: st' ∧ f v a st' := by
  unfold zva at h; split at h
  · exact ⟨_, _, _, rfl, h⟩
  · exact h.elim
/-- src, position, dst, position, number (an array copy's stack from above) -/
def zcp (st : List zV) (f : Int32 → Int32 → Nat → Int32 → Nat → List zV → Prop) : Prop := match st with
  | .inl n :: .inl dp :: .inr d :: .inl sp :: .inr s :: st => f n dp d sp s st
  | _ => False
theorem zcp_spec {st : List zV} {f : Int32 → Int32 → Nat → Int32 → Nat → List zV → Prop} (h : zcp st f) : ∃ n dp d sp s st', st = .inl n :: .inl dp :: .inr d :: .inl sp :: .inr s :: st' ∧ f n dp d sp s st' := by
  unfold zcp at h; split at h
  · exact ⟨_, _, _, _, _, _, rfl, h⟩
  · exact h.elim
def zpop : Nat → List zV → List zV → (List zV → List zV → Prop) → Prop
  | 0, st, acc, f => f acc st
  | n + 1, v :: st, acc, f => zpop n st (v :: acc) f
  | _ + 1, [], _, _ => False
theorem zpop_spec : ∀ (n : Nat) (st acc : List zV) (f : List zV → List zV → Prop), zpop n st acc f → ∃ as rest, st = as.reverse ++ rest ∧ as.length = n ∧ f (as ++ acc) rest
  | 0, st, acc, f, h => ⟨[], st, rfl, rfl, h⟩
  | n + 1, v :: st, acc, f, h => by
    obtain ⟨as, rest, h1, h2, h3⟩ := zpop_spec n st (v :: acc) f h
    exact ⟨as ++ [v], rest, by rw [h1]; simp, by simp [h2], by simpa using h3⟩
  | _ + 1, [], _, _, h => h.elim
def zc (c : Jvm.ClassFile.Cond) (x y : Int32) : Prop := match c with
  | .eq => x = y | .ne => ¬ x = y | .lt => x < y | .ge => y ≤ x | .gt => y < x | .le => x ≤ y
def znc (c : Jvm.ClassFile.Cond) (x y : Int32) : Prop := match c with
  | .eq => ¬ x = y | .ne => x = y | .lt => ¬ x < y | .ge => ¬ y ≤ x | .gt => ¬ y < x | .le => ¬ x ≤ y
def zshort (st : List zV) (P : Prop) : Prop := match Nat.ble st.length 8 with
  | true => P
  | false => False
theorem zshort_spec {st : List zV} {P : Prop} (h : zshort st P) : st.length ≤ 8 ∧ P := by
  unfold zshort at h; split at h
  · exact ⟨Nat.le_of_ble_eq_true (by assumption), h⟩
  · exact h.elim
def zroom (M M' : zM) (k n : Nat) (f : Nat → Nat → Prop) : Prop := match (zMo M').cells, (zMo M').slots with
  | 0, 0 => f k n
  | c, s => (k + c ≤ (zMo M).cells ∧ n + s ≤ (zMo M).slots) ∧ f (k + c) (n + s)
theorem zroom_spec {M M' : zM} {k n : Nat} {f : Nat → Nat → Prop} (hk : k ≤ (zMo M).cells) (hn : n ≤ (zMo M).slots) (h : zroom M M' k n f) :
    (k + (zMo M').cells ≤ (zMo M).cells ∧ n + (zMo M').slots ≤ (zMo M).slots) ∧ f (k + (zMo M').cells) (n + (zMo M').slots) := by
  unfold zroom at h; split at h
  · rename_i e1 e2
    rw [e1, e2]
    exact ⟨⟨hk, hn⟩, h⟩
  · exact h
def zback (E : zE) (M' : zM) (av : List zV) (h : zH) (f : Option zV → zH → Prop) : Prop := match zMr M' with
  | none => zMv E M' av h (fun h' => f none h')
  | some t => match zisr t with
    | true => zMa E M' av h (fun a h' => f (some (.inr a)) h')
    | false => zMi E M' av h (fun x h' => f (some (.inl x)) h')
theorem zback_spec {E : zE} {M' : zM} {av : List zV} {h : zH} {f : Option zV → zH → Prop} (hb : zback E M' av h f) : zMet E M' av h f := by
  unfold zback at hb; split at hb
  · exact zMet.mono hb (fun r h' ⟨e, q⟩ => by rw [e]; exact q)
  · split at hb
    · exact zMet.mono hb (fun r h' ⟨x, e, q⟩ => by rw [e]; exact q)
    · exact zMet.mono hb (fun r h' ⟨x, e, q⟩ => by rw [e]; exact q)
def zfv (h : zH) (a ci k : Nat) : zV := match zisr (zty ci k) with
  | true => .inr (zr h a k)
  | false => .inl (zi h a k)
theorem zfv_spec (h : zH) (a ci k : Nat) : zval (zfv h a ci k) = zfld h a ci k := by
  unfold zfv zfld; split <;> simp_all [zval]
def zput (h : zH) (a ci k : Nat) (v : zV) (f : zH → Prop) : Prop := match v, zisr (zty ci k) with
  | .inl x, false => f (zpi h a k x)
  | .inr x, true => f (zpr h a k x)
  | _, _ => False
def zts (pc : Nat) (dflt lo hi : Int) (offs : List Int) (x : Int32) : Nat := if x.toInt < lo ∨ hi < x.toInt then zt pc dflt else zt pc (offs[(x.toInt - lo).toNat]?.getD 0)
def znar (t : Option FieldType) (x : Int32) (P : Prop) : Prop := match t with
  | some .int => P
  | some .boolean => (x = 0 ∨ x = 1) ∧ P
  | some t => narrow t (.int x) = .int x ∧ P
  | none => False
def zemp (st : List zV) (P : Prop) : Prop := match st with
  | [] => P
  | _ => False
theorem zemp_spec {st : List zV} {P : Prop} (h : zemp st P) : st = [] ∧ P := by
  unfold zemp at h; split at h
  · exact ⟨rfl, h⟩
  · exact h.elim
def zmin (x y : Int32) : Int32 := if y < x then y else x
def zmax (x y : Int32) : Int32 := if x < y then y else x
def zwpI (E : zE) (M : zM) (Q : Option zV → zH → Prop) (K : zKt) (ins : zIns) (lk : zLk) (pc : Nat) (L : List (Option zV)) (st : List zV) (h : zH) (k n : Nat) : Prop := match ins with
  | .iconst i => K (pc + 1) L (.inl (zcst i) :: st) h k n
  | .bipush i => K (pc + 2) L (.inl (zcst i) :: st) h k n
  | .sipush i => K (pc + 3) L (.inl (zcst i) :: st) h k n
  | .iload_n j => zgi L j.val fun x => K (pc + 1) L (.inl x :: st) h k n
  | .iload j => zgi L j fun x => K (pc + 2) L (.inl x :: st) h k n
  | .aload_n j => zga L j.val fun x => K (pc + 1) L (.inr x :: st) h k n
  | .aload j => zga L j fun x => K (pc + 2) L (.inr x :: st) h k n
  | .istore_n j => z1i st fun x st => K (pc + 1) (L.set j.val (some (.inl x))) st h k n
  | .istore j => z1i st fun x st => K (pc + 2) (L.set j (some (.inl x))) st h k n
  | .astore_n j => z1a st fun x st => K (pc + 1) (L.set j.val (some (.inr x))) st h k n
  | .astore j => z1a st fun x st => K (pc + 2) (L.set j (some (.inr x))) st h k n
  | .iinc j c => zgi L j fun x => K (pc + 3) (L.set j (some (.inl (x + zcst c)))) st h k n
  | .iadd => z2i st fun y x st => K (pc + 1) L (.inl (x + y) :: st) h k n
  | .isub => z2i st fun y x st => K (pc + 1) L (.inl (x - y) :: st) h k n
  | .imul => z2i st fun y x st => K (pc + 1) L (.inl (x * y) :: st) h k n
  | .idiv => z2i st fun y x st => ¬ y = 0 ∧ K (pc + 1) L (.inl (x / y) :: st) h k n
  | .irem => z2i st fun y x st => ¬ y = 0 ∧ K (pc + 1) L (.inl (x - x / y * y) :: st) h k n
  | .iand => z2i st fun y x st => K (pc + 1) L (.inl (x &&& y) :: st) h k n
  | .ior => z2i st fun y x st => K (pc + 1) L (.inl (x ||| y) :: st) h k n
  | .ixor => z2i st fun y x st => K (pc + 1) L (.inl (x ^^^ y) :: st) h k n
  | .ishl => z2i st fun y x st => K (pc + 1) L (.inl (x <<< (y &&& 31)) :: st) h k n
  | .ishr => z2i st fun y x st => K (pc + 1) L (.inl (x >>> (y &&& 31)) :: st) h k n
  | .i2c => z1i st fun x st => K (pc + 1) L (.inl ((x.toUInt32 % 65536).toInt32) :: st) h k n
  | .dup => z1 st fun v st => K (pc + 1) L (v :: v :: st) h k n
  | .dup2 => z2 st fun v w st => K (pc + 1) L (v :: w :: v :: w :: st) h k n
  | .pop => z1 st fun _ st => K (pc + 1) L st h k n
  | .goto off => K (zt pc off) L st h k n
  | .ifCond c off => z1i st fun x st => (zc c x 0 → K (zt pc off) L st h k n) ∧ (znc c x 0 → K (pc + 3) L st h k n)
  | .if_icmp c off => z2i st fun y x st => (zc c x y → K (zt pc off) L st h k n) ∧ (znc c x y → K (pc + 3) L st h k n)
  | .ifnull off => z1a st fun a st => (a = 0 → K (zt pc off) L st h k n) ∧ (¬ a = 0 → K (pc + 3) L st h k n)
  | .ifnonnull off => z1a st fun a st => (¬ a = 0 → K (zt pc off) L st h k n) ∧ (a = 0 → K (pc + 3) L st h k n)
  | .tableswitch dflt lo hi offs => z1i st fun x st => K (zts pc dflt lo hi offs.toList x) L st h k n
  | .lookupswitch dflt ps => z1i st fun x st => K (zt pc (Op.lookupswitch.offset ps.toList dflt x.toInt)) L st h k n
  | .getfield _ => z1a st fun a st => zk h a = lk.1 + 1 ∧ K (pc + 3) L (zfv h a lk.1 lk.2.1 :: st) h k n
  | .putfield _ => zva st fun v a st => zk h a = lk.1 + 1 ∧ zput h a lk.1 lk.2.1 v (fun h' => K (pc + 3) L st h' k n)
  | .iaload => zia st fun i a st => match lk.1 with
    | 0 => zk h a = 20 ∧ vp_in i (zn h a) ∧ K (pc + 1) L (.inl (zi h a i.toNatClampNeg) :: st) h k n
    | _ => a = zEb E + 1 ∧ vp_in i (zEL E) ∧ K (pc + 1) L (.inl (zEx E i.toNatClampNeg) :: st) h k n
  | .arraylength => z1a st fun a st => a = zEb E + 1 ∧ K (pc + 1) L (.inl (nI (zEL E)) :: st) h k n
  | .caload => zia st fun i a st => zk h a = 21 ∧ vp_in i (zn h a) ∧ K (pc + 1) L (.inl (zi h a i.toNatClampNeg) :: st) h k n
  | .aaload => zia st fun i a st => (22 ≤ zk h a ∧ zk h a < 28) ∧ vp_in i (zn h a) ∧ K (pc + 1) L (.inr (zr h a i.toNatClampNeg) :: st) h k n
  | .iastore => ziia st fun x i a st => zk h a = 20 ∧ vp_in i (zn h a) ∧ K (pc + 1) L st (zpi h a i.toNatClampNeg x) k n
  | .castore => ziia st fun x i a st => zk h a = 21 ∧ vp_in i (zn h a) ∧ K (pc + 1) L st (zpi h a i.toNatClampNeg (vp_nar .char x)) k n
  | .aastore => zaia st fun x i a st => (22 ≤ zk h a ∧ zk h a < 28) ∧ vp_in i (zn h a) ∧ (x = 0 ∨ zk h x = zAk (zk h a - 20) + 1) ∧ K (pc + 1) L st (zpr h a i.toNatClampNeg x) k n
  | .new _ => (k + 1 ≤ (zMo M).cells ∧ n + zN lk.1 ≤ (zMo M).slots) ∧ K (pc + 3) L (.inr (zsz h) :: st) (znew h (lk.1 + 1) 0) (k + 1) (n + zN lk.1)
  | .newarray _ => z1i st fun x st => (¬ x < 0 ∧ x.toNatClampNeg ≤ 10000 ∧ k + 1 ≤ (zMo M).cells ∧ n + x.toNatClampNeg ≤ (zMo M).slots) ∧ K (pc + 2) L (.inr (zsz h) :: st) (znew h (20 + lk.1) x.toNatClampNeg) (k + 1) (n + x.toNatClampNeg)
  | .anewarray _ => z1i st fun x st => (¬ x < 0 ∧ x.toNatClampNeg ≤ 10000 ∧ k + 1 ≤ (zMo M).cells ∧ n + x.toNatClampNeg ≤ (zMo M).slots) ∧ K (pc + 3) L (.inr (zsz h) :: st) (znew h (20 + lk.1) x.toNatClampNeg) (k + 1) (n + x.toNatClampNeg)
  | .invokespecial _ => match lk.2.2.2.2.2 with
    | none => z1a st fun a st => ¬ a = 0 ∧ zshort st (K (pc + 3) L st h k n)
    | some M' => zpop (zMn M') st [] fun av st1 => z1a st1 fun b rest => zk h b = lk.1 + 1 ∧ zshort rest (zroom M M' k n fun k' n' => zback E M' (.inr b :: av) h (fun r h' => K (pc + 3) L (r.toList ++ rest) h' k' n'))
  | .invokevirtual _ => match lk.2.2.2.2.2 with
    | none => False
    | some M' => zpop (zMn M') st [] fun av st1 => z1a st1 fun b rest => zk h b = lk.1 + 1 ∧ zshort rest (zroom M M' k n fun k' n' => zback E M' (.inr b :: av) h (fun r h' => K (pc + 3) L (r.toList ++ rest) h' k' n'))
  | .invokestatic _ => match lk.2.2.2.2.2 with
    | none => match lk.1 with
      | 0 => z2i st fun y x st => zshort st (K (pc + 3) L (.inl (zmin x y) :: st) h k n)
      | 1 => z2i st fun y x st => zshort st (K (pc + 3) L (.inl (zmax x y) :: st) h k n)
      | 3 => z2i st fun y x st => (¬ x < 0 ∧ 0 < y) ∧ zshort st (K (pc + 3) L (.inl (x - x / y * y) :: st) h k n)
      | _ => zcp st fun m dp d sp s st => (zk h s = 20 ∧ zk h d = 20 ∧ ¬ sp < 0 ∧ ¬ dp < 0 ∧ ¬ m < 0 ∧ sp.toNatClampNeg + m.toNatClampNeg ≤ zn h s ∧ dp.toNatClampNeg + m.toNatClampNeg ≤ zn h d) ∧ zshort st (K (pc + 3) L st (zpa h d (va_cpy (zi h s) (zi h d) sp.toNatClampNeg dp.toNatClampNeg m.toNatClampNeg)) k n)
    | some M' => zpop (zMn M') st [] fun av rest => zshort rest (zroom M M' k n fun k' n' => zback E M' av h (fun r h' => K (pc + 3) L (r.toList ++ rest) h' k' n'))
  | .ireturn => z1i st fun x st => zemp st (znar (zMr M) x (Q (some (.inl x)) h))
  | .areturn => z1a st fun x st => zemp st (Q (some (.inr x)) h)
  | .return_ => zemp st (Q none h)
  | _ => False
