theorem zmsb {x : Int32} : x.toBitVec.msb = decide (x.toInt < 0) := by
  rw [BitVec.msb_eq_toInt]; rfl
theorem zxor_nn {x y : Int32} (hx : ¬ x < 0) (hy : 0 < y) : 0 ≤ x ^^^ y := by
  have h1 : 0 ≤ x.toInt := by have := Int32.not_lt.mp hx; simpa using Int32.le_iff_toInt_le.mp this
  have h2 : 0 < y.toInt := by simpa using Int32.lt_iff_toInt_lt.mp hy
  rw [Int32.le_iff_toInt_le, Int32.toInt_zero]
  have h3 : (x ^^^ y).toBitVec.msb = false := by
    rw [Int32.toBitVec_xor, BitVec.msb_xor, zmsb, zmsb, decide_eq_false (by omega), decide_eq_false (by omega)]; rfl
  rw [zmsb] at h3
  have h4 := of_decide_eq_false h3
  omega
theorem zrem {x y : Int32} (hx : ¬ x < 0) (hy : 0 < y) : x - x / y * y = x % y := by
  have hy2 : 0 < y.toInt := by simpa using Int32.lt_iff_toInt_lt.mp hy
  have hy1 : ¬ y < 0 := fun q => by
    have := Int32.lt_iff_toInt_lt.mp q
    rw [Int32.toInt_zero] at this
    omega
  obtain ⟨a, ha, rfl⟩ := nI_of hx
  obtain ⟨d, hd, rfl⟩ := nI_of hy1
  rw [nI_toInt hd] at hy2
  have hlt : a % d < 2 ^ 31 := Nat.lt_of_le_of_lt (Nat.mod_le _ _) ha
  rw [pk_rem ha (by omega) hd]
  apply Int32.toInt_inj.mp
  rw [Int32.toInt_mod, nI_toInt hlt, nI_toInt ha, nI_toInt hd]
  exact Int.ofNat_tmod a d
def zfmPre : Cond := .and (.code yJ9_floorMod_7cf53 cJ9_floorMod_7cf53 3 (some .int)) (.and (.count 2) (.and (.isInt (.arg 0)) (.and (.isInt (.arg 1)) (.and (.lt (.int 0) (.arg 1)) (.not (.lt (.arg 0) (.int 0)))))))
def zfmSpec : Spec where
  pre := zfmPre
  post := .and .returned (.eq .result (.rem (.arg 0) (.arg 1)))
  changes := some []
theorem zfm0 : decode cJ9_floorMod_7cf53 0 = .ok (.iload_n 0, 1) := by decide +kernel
theorem zfm1 : decode cJ9_floorMod_7cf53 1 = .ok (.iload_n 1, 1) := by decide +kernel
theorem zfm2 : decode cJ9_floorMod_7cf53 2 = .ok (.irem, 1) := by decide +kernel
theorem zfm3 : decode cJ9_floorMod_7cf53 3 = .ok (.istore_n 2, 1) := by decide +kernel
theorem zfm4 : decode cJ9_floorMod_7cf53 4 = .ok (.iload_n 0, 1) := by decide +kernel
theorem zfm5 : decode cJ9_floorMod_7cf53 5 = .ok (.iload_n 1, 1) := by decide +kernel
theorem zfm6 : decode cJ9_floorMod_7cf53 6 = .ok (.ixor, 1) := by decide +kernel
theorem zfm7 : decode cJ9_floorMod_7cf53 7 = .ok (.ifCond .ge 11, 3) := by decide +kernel
theorem zfm18 : decode cJ9_floorMod_7cf53 18 = .ok (.iload_n 2, 1) := by decide +kernel
theorem zfm19 : decode cJ9_floorMod_7cf53 19 = .ok (.ireturn, 1) := by decide +kernel
theorem zfm_noRow0 : (NativeRow.find? natives yJ9_floorMod_7cf53.cls yJ9_floorMod_7cf53.name yJ9_floorMod_7cf53.desc).isNone = true := by decide +kernel
theorem zfm_noRow (p : Program) : NativeRow.find? p.tables.natives yJ9_floorMod_7cf53.cls yJ9_floorMod_7cf53.name yJ9_floorMod_7cf53.desc = none := by
  cases p <;> exact Option.isNone_iff_eq_none.mp zfm_noRow0
theorem zfm_pre {a b : Int32} {s : State} (h1 : (Cond.lt (.int 0) (.arg 1)).before #[.int a, .int b] s = true) (h2 : (Cond.not (.lt (.arg 0) (.int 0))).before #[.int a, .int b] s = true) : 0 < b ∧ ¬ a < 0 := by
  constructor
  · simpa [Cond.before, Cond.holds, Cond.value, Term.eval] using h1
  · simpa [Cond.before, Cond.holds, Cond.value, Term.eval] using h2
set_option maxHeartbeats 2000000 in
theorem zfm_meets (l : Launch) : MeetsLoose l yJ9_floorMod_7cf53 zfmSpec := by
  refine MeetsLoose.of_body_ov (code := cJ9_floorMod_7cf53) (maxLocals := 3) (ret := some .int) zfm_noRow ?_ ?_
  · intro args s h
    simp only [zfmSpec, zfmPre, Cond.before_and, Bool.and_eq_true] at h
    exact h.1
  · intro p e s m args below meth c s₁ B
    have hpre := B.pre
    simp only [zfmSpec, zfmPre, Cond.before_and, Bool.and_eq_true] at hpre
    obtain ⟨a, b, rfl⟩ := Cond.two_ints hpre.2.1 hpre.2.2.1 hpre.2.2.2.1
    obtain ⟨hb, ha⟩ := zfm_pre hpre.2.2.2.2.1 hpre.2.2.2.2.2
    have hb0 : ¬ b = 0 := by rintro rfl; exact absurd hb (by decide)
    have hxor := zxor_nn ha hb
    have hloc : argsToLocals #[.int a, .int b] 3 = #[.val (.int a), .val (.int b), .unset] := rfl
    obtain ⟨fs, hfs⟩ := handOver_isSome (s := s₁) (some (.int (a - a / b * b))) B.hears₁
    refine ⟨s₁.setFrames fs, .returned (some (.int (a - a / b * b))), ?_, B.here.running, B.ended hfs (by intro h; cases h), ?_, State.sameBut_nil.mpr ?_⟩
    · unfold entryFrame; rw [hloc]
      refine Steps.instrAtOv (c := _) (by simpa using B.here) ?_
      simp [jvm, wpRun, exec, B.here.top, B.exec, B.bytes, zfm0]
      refine Steps.instrAtOv (c := _) (by simpa using B.here) ?_
      simp [jvm, wpRun, exec, B.here.top, B.exec, B.bytes, zfm1]
      refine Steps.instrAtOv (c := _) (by simpa using B.here) ?_
      simp [jvm, wpRun, exec, B.here.top, B.exec, B.bytes, zfm2, hb0]
      generalize hr : a - a / b * b = r at hfs ⊢
      refine Steps.instrAtOv (c := _) (by simpa using B.here) ?_
      simp [jvm, wpRun, exec, B.here.top, B.exec, B.bytes, zfm3, show storeLocals #[.val (.int a), .val (.int b), .unset] 2 (.int r) = some #[.val (.int a), .val (.int b), .val (.int r)] from rfl]
      refine Steps.instrAtOv (c := _) (by simpa using B.here) ?_
      simp [jvm, wpRun, exec, B.here.top, B.exec, B.bytes, zfm4]
      refine Steps.instrAtOv (c := _) (by simpa using B.here) ?_
      simp [jvm, wpRun, exec, B.here.top, B.exec, B.bytes, zfm5]
      refine Steps.instrAtOv (c := _) (by simpa using B.here) ?_
      simp [jvm, wpRun, exec, B.here.top, B.exec, B.bytes, zfm6]
      refine Steps.instrAtOv (c := _) (by simpa using B.here) ?_
      simp [jvm, wpRun, exec, B.here.top, B.exec, B.bytes, zfm7, Op.ifCond.holds, hxor]
      refine Steps.instrAtOv (c := _) (by simpa using B.here) ?_
      simp [jvm, wpRun, exec, B.here.top, B.exec, B.bytes, zfm18]
      refine Steps.instrAtOv (c := _) (by simpa using B.here) ?_
      simp [jvm, wpRun, exec, B.here.top, B.exec, B.bytes, zfm19, B.method₁, B.returns, narrow]
      intro acts
      rw [ret_to B.frames₁ B.method₁ B.notSynchronized rfl rfl hfs]
      exact Steps.refl _
    · simp [zfmSpec, Cond.after, Cond.holds, Cond.value, Term.eval, hb0, zrem ha hb]
    · rw [State.frames_setFrames _ B.cur₁, B.back]
section ZFM
variable {E : zE} {M : zM} {P : Array Value → State → Outcome → State → Prop} {p : Program} {e : Env} {s : State} {m : MethodId} {args : Array Value} {below : List Frame} {meth : Method} {c : Code} {H : Heap} {locs : List Loc} {k n pc : Nat} {ls : Array Slot} {h : zH}
theorem zs_fmod (F : zFix E M p s m meth args c) (hsz : ls.size = zMl M) {idx t1 t2 t3 t4 : Nat} {x y : Int32} {rest : List Value} (hk : k ≤ (zMo M).cells) (hn : n ≤ (zMo M).slots)
    (g1 : zw t1 (.methodLink (zMy M).cls idx yJ9_floorMod_7cf53) = true) (g2 : zw t2 (.static yJ9_floorMod_7cf53) = true) (g3 : zw t3 (.initialized "java/lang/Math") = true) (g4 : zw t4 (.code yJ9_floorMod_7cf53 cJ9_floorMod_7cf53 3 (some .int)) = true)
    (hx0 : ¬ x < 0) (hy0 : 0 < y) (hframes : 1 ≤ (zMo M).frames) (hlocals : (rest.map fun v => v.category).sum + 14 ≤ (zMo M).locals) (hdg : decode (zMb M) pc = .ok (.invokestatic idx, 3))
    (kk : zWV E M P p e s m args below meth c H locs k n (pc + 3) ls (.int (x - x / y * y) :: rest)) : zWV E M P p e s m args below meth c H locs k n pc ls (.int y :: .int x :: rest) := by
  obtain ⟨hx, hb, hml, -, hown, hts, hKK, -⟩ := F
  have hy1 : ¬ y = 0 := by rintro rfl; exact absurd hy0 (by decide)
  have hcode := hts _ (zw_spec g4)
  intro T hT X
  obtain ⟨v, vm', X', ⟨first, t, hpost⟩, hstep⟩ := X.staticByContractV hx hown (hts _ (zw_spec g1)) (hts _ (zw_spec g2)) (hts _ (zw_spec g3)) hcode (by decide) (zfm_meets (zEl E)) rfl rfl rfl rfl
    (fun args' first o s₂ h => by
      simp only [zfmSpec, Cond.after_and, Bool.and_eq_true] at h
      cases o with
      | returned r => exact ⟨r, rfl⟩
      | threw y => simp [Cond.after, Cond.holds, Cond.value] at h)
    (g := F0 m pc ls (.int y :: .int x :: rest)) rfl (by rw [hml]; exact hsz) (argsL := [.int x, .int y]) (rest := rest)
    (fun sig hs => by
      have h : parseMethodDescriptor "(II)I" = some { parameters := [.int, .int], returnType := some .int } := by decide +kernel
      rw [show yJ9_floorMod_7cf53.desc = "(II)I" from rfl, h] at hs
      rw [← Option.some.inj hs]; rfl)
    rfl (by rw [hb]; exact hdg)
    (fun vm' hW => by
      simp only [zfmSpec, zfmPre, Cond.before_and, Bool.and_eq_true]
      refine ⟨?_, rfl, rfl, rfl, ?_, ?_⟩
      · have q := hcode
        rw [← Cond.code_setVm hW.alike] at q
        simp only [Cond.before, Cond.holds, Cond.value, State.methodNamed?, State.vm_setVm] at q ⊢
        exact q
      · simp [Cond.before, Cond.holds, Cond.value, Term.eval, hy0]
      · simpa [Cond.before, Cond.holds, Cond.value, Term.eval] using hx0)
    (by show 0 + 1 ≤ _; omega) (by show 2 * 0 + (rest.map fun v => v.category).sum + (3 + 11) + 0 ≤ _; omega) (by show k + 0 ≤ _; omega) (by show n + 0 ≤ _; omega)
  obtain ⟨t2, a1, b1⟩ := kk (T.setVm vm') hT X'
  refine ⟨t2, hstep _ ?_, b1⟩
  have hv : v = some (.int (x - x / y * y)) := by
    rcases v with _ | w
    · simp [zfmSpec, Cond.after, Cond.holds, Cond.value, Term.eval, hy1] at hpost
    · cases w <;> simp [zfmSpec, Cond.after, Cond.holds, Cond.value, Term.eval, hy1] at hpost
      rename_i r
      rw [hpost, zrem hx0 hy0]
  rw [hv]
  exact a1
end ZFM
