section ZI
variable {E : zE} {M : zM} {Q : Option zV → zH → Prop} {K : zKt} {lk : zLk} {pc len : Nat} {L : List (Option zV)} {st : List zV} {h : zH} {k n : Nat}
theorem zm_at {L : List (Option zV)} {ls : Array Slot} {nL : Nat} (h : zL ls nL L) {i : Nat} {x : Int32} (hi : L[i]? = some (some (.inl x))) : ls[i]? = some (.val (.int x)) := h.at hi
theorem zI_sound {ins : zIns} (hK : ∀ pc L st h k n, K pc L st h k n → zJ E M Q pc L st h k n) (hd : decode (zMb M) pc = .ok (ins, len)) (he : zentB M pc ins len lk = true) (hw : zwpI E M Q K ins lk pc L st h k n) : zJ E M Q pc L st h k n := by
  intro hL hkc hns p e s m args below meth c F H locs ls hR hS hl
  have hx := F.1
  have hb := F.2.1
  have hml := F.2.2.1
  have hrt := F.2.2.2.1
  have hown := F.2.2.2.2.1
  have hts := F.2.2.2.2.2.1
  have hlk := F.2.2.2.2.2.2.2.1
  have hlen := hl.1
  have go : ∀ pc L' st h k n H locs ls, K pc L' st h k n → L'.length = zMl M → k ≤ (zMo M).cells → n ≤ (zMo M).slots → zREL E h H → va_S (fun q => zElo E ≤ q) s.heap H locs → zL ls (zMl M) L' → zWW E M Q p e s m args below meth c H locs k n pc ls (st.map zval) :=
    fun pc L' st h k n H locs ls a b c1 c2 d1 d2 d3 => hK pc L' st h k n a b c1 c2 p e s m args below meth c F H locs ls d1 d2 d3
  cases ins <;> (try (simp only [zwpI] at hw)) <;> (try (simp only [zentB, Bool.and_eq_true, decide_eq_true_eq] at he)) <;> (try (exact hw.elim))
  case iconst i => obtain ⟨rfl, -⟩ := he; exact lv_iconst hx hb hd (zcst_eq i) (go _ _ _ _ _ _ _ _ _ hw hL hkc hns hR hS hl)
  case bipush i => obtain ⟨rfl, he⟩ := he; exact lv_bipush hx hb hd he (go _ _ _ _ _ _ _ _ _ hw hL hkc hns hR hS hl)
  case sipush i => obtain ⟨rfl, he⟩ := he; exact lv_sipush hx hb hd he (go _ _ _ _ _ _ _ _ _ hw hL hkc hns hR hS hl)
  case iload_n j => obtain ⟨rfl, -⟩ := he; obtain ⟨x, h1, h2⟩ := zgi_spec hw; exact lv_iload_n hx hb hd rfl (zm_at hl h1) (go _ _ _ _ _ _ _ _ _ h2 hL hkc hns hR hS hl)
  case iload j => obtain ⟨rfl, -⟩ := he; obtain ⟨x, h1, h2⟩ := zgi_spec hw; exact lv_iload hx hb hd (zm_at hl h1) (go _ _ _ _ _ _ _ _ _ h2 hL hkc hns hR hS hl)
  case aload_n j =>
    obtain ⟨rfl, -⟩ := he
    obtain ⟨x, h1, h2⟩ := zga_spec hw
    have h3 := hl.at h1
    have h4 := go _ _ _ _ _ _ _ _ _ h2 hL hkc hns hR hS hl
    have e1 : zval (.inr x) = zrf x := rfl
    rw [List.map_cons, e1] at h4
    rw [e1] at h3
    rcases zrf_cases x with ⟨-, hx0⟩ | ⟨-, hx0⟩ <;> rw [hx0] at h3 h4
    · exact lv_aload_nN hx hb hd rfl h3 h4
    · exact lv_aload_n hx hb hd rfl h3 h4
  case aload j =>
    obtain ⟨rfl, -⟩ := he
    obtain ⟨x, h1, h2⟩ := zga_spec hw
    have h3 := hl.at h1
    have h4 := go _ _ _ _ _ _ _ _ _ h2 hL hkc hns hR hS hl
    have e1 : zval (.inr x) = zrf x := rfl
    rw [List.map_cons, e1] at h4
    rw [e1] at h3
    rcases zrf_cases x with ⟨-, hx0⟩ | ⟨-, hx0⟩ <;> rw [hx0] at h3 h4
    · exact lv_aloadN hx hb hd h3 h4
    · exact lv_aload hx hb hd h3 h4
  case istore_n j =>
    obtain ⟨rfl, hj⟩ := he
    obtain ⟨x, st', rfl, h2⟩ := z1i_spec hw
    exact lv_istore_n hx hb hd rfl hl hj rfl (fun ls' hl' => go _ _ _ _ _ _ _ _ _ h2 (by rw [List.length_set]; exact hL) hkc hns hR hS (zL.set (v := .inl x) (by rw [hL]; exact hj) hl'))
  case istore j =>
    obtain ⟨rfl, hj⟩ := he
    obtain ⟨x, st', rfl, h2⟩ := z1i_spec hw
    exact lv_istore hx hb hd hl hj rfl (fun ls' hl' => go _ _ _ _ _ _ _ _ _ h2 (by rw [List.length_set]; exact hL) hkc hns hR hS (zL.set (v := .inl x) (by rw [hL]; exact hj) hl'))
  case astore_n j =>
    obtain ⟨rfl, hj⟩ := he
    obtain ⟨x, st', rfl, h2⟩ := z1a_spec hw
    show zWW E M Q p e s m args below meth c H locs k n pc ls (zrf x :: st'.map zval)
    have key := fun ls' hl' => go _ _ _ _ _ _ _ _ ls' h2 (by rw [List.length_set]; exact hL) hkc hns hR hS (zL.set (v := .inr x) (by rw [hL]; exact hj) hl')
    have e1 : zval (.inr x) = zrf x := rfl
    rw [e1] at key
    rcases zrf_cases x with ⟨-, hx0⟩ | ⟨-, hx0⟩ <;> rw [hx0] at key ⊢
    · exact lv_astore_nN hx hb hd rfl hl hj rfl key
    · exact lv_astore_n hx hb hd rfl hl hj rfl key
  case astore j =>
    obtain ⟨rfl, hj⟩ := he
    obtain ⟨x, st', rfl, h2⟩ := z1a_spec hw
    show zWW E M Q p e s m args below meth c H locs k n pc ls (zrf x :: st'.map zval)
    have key := fun ls' hl' => go _ _ _ _ _ _ _ _ ls' h2 (by rw [List.length_set]; exact hL) hkc hns hR hS (zL.set (v := .inr x) (by rw [hL]; exact hj) hl')
    have e1 : zval (.inr x) = zrf x := rfl
    rw [e1] at key
    rcases zrf_cases x with ⟨-, hx0⟩ | ⟨-, hx0⟩ <;> rw [hx0] at key ⊢
    · exact lv_astoreN hx hb hd hl hj rfl key
    · exact lv_astore hx hb hd hl hj rfl key
  case iinc j cc =>
    obtain ⟨rfl, hj⟩ := he
    obtain ⟨x, h1, h2⟩ := zgi_spec hw
    obtain ⟨kk, hkk⟩ := List.getElem?_of_mem ((zLl_mem L 0 (j, .int x)).mpr ⟨j, .inl x, h1, by rw [Nat.zero_add]; rfl⟩)
    exact lv_iinc hx hb hd hl hkk (by rw [zcst_eq]) hj rfl (fun ls' hl' => go _ _ _ _ _ _ _ _ _ h2 (by rw [List.length_set]; exact hL) hkc hns hR hS (zL.set (v := .inl (x + zcst cc)) (by rw [hL]; exact hj) hl'))
  case iadd => obtain ⟨rfl, -⟩ := he; obtain ⟨y, x, st', rfl, h2⟩ := z2i_spec hw; exact lv_iadd hx hb hd (go _ _ _ _ _ _ _ _ _ h2 hL hkc hns hR hS hl)
  case isub => obtain ⟨rfl, -⟩ := he; obtain ⟨y, x, st', rfl, h2⟩ := z2i_spec hw; exact lv_isub hx hb hd (go _ _ _ _ _ _ _ _ _ h2 hL hkc hns hR hS hl)
  case imul => obtain ⟨rfl, -⟩ := he; obtain ⟨y, x, st', rfl, h2⟩ := z2i_spec hw; exact lv_imul hx hb hd (go _ _ _ _ _ _ _ _ _ h2 hL hkc hns hR hS hl)
  case idiv => obtain ⟨rfl, -⟩ := he; obtain ⟨y, x, st', rfl, h1, h2⟩ := z2i_spec hw; exact lv_idiv hx hb hd h1 (go _ _ _ _ _ _ _ _ _ h2 hL hkc hns hR hS hl)
  case irem => obtain ⟨rfl, -⟩ := he; obtain ⟨y, x, st', rfl, h1, h2⟩ := z2i_spec hw; exact lv_irem hx hb hd h1 (go _ _ _ _ _ _ _ _ _ h2 hL hkc hns hR hS hl)
  case iand => obtain ⟨rfl, -⟩ := he; obtain ⟨y, x, st', rfl, h2⟩ := z2i_spec hw; exact lv_iand hx hb hd (go _ _ _ _ _ _ _ _ _ h2 hL hkc hns hR hS hl)
  case ior => obtain ⟨rfl, -⟩ := he; obtain ⟨y, x, st', rfl, h2⟩ := z2i_spec hw; exact lv_ior hx hb hd (go _ _ _ _ _ _ _ _ _ h2 hL hkc hns hR hS hl)
  case ixor => obtain ⟨rfl, -⟩ := he; obtain ⟨y, x, st', rfl, h2⟩ := z2i_spec hw; exact lv_ixor hx hb hd (go _ _ _ _ _ _ _ _ _ h2 hL hkc hns hR hS hl)
  case ishl => obtain ⟨rfl, -⟩ := he; obtain ⟨y, x, st', rfl, h2⟩ := z2i_spec hw; exact lv_ishl hx hb hd (go _ _ _ _ _ _ _ _ _ h2 hL hkc hns hR hS hl)
  case ishr => obtain ⟨rfl, -⟩ := he; obtain ⟨y, x, st', rfl, h2⟩ := z2i_spec hw; exact lv_ishr hx hb hd (go _ _ _ _ _ _ _ _ _ h2 hL hkc hns hR hS hl)
  case i2c => obtain ⟨rfl, -⟩ := he; obtain ⟨x, st', rfl, h2⟩ := z1i_spec hw; exact lv_i2c hx hb hd rfl (go _ _ _ _ _ _ _ _ _ h2 hL hkc hns hR hS hl)
  case dup => obtain ⟨rfl, -⟩ := he; obtain ⟨v, st', rfl, h2⟩ := z1_spec hw; exact lv_dup hx hb hd (zval_cat v) (go _ _ _ _ _ _ _ _ _ h2 hL hkc hns hR hS hl)
  case dup2 => obtain ⟨rfl, -⟩ := he; obtain ⟨v, w, st', rfl, h2⟩ := z2_spec hw; exact lv_dup2_11 hx hb hd (zval_cat v) (zval_cat w) (go _ _ _ _ _ _ _ _ _ h2 hL hkc hns hR hS hl)
  case pop => obtain ⟨rfl, -⟩ := he; obtain ⟨v, st', rfl, h2⟩ := z1_spec hw; exact lv_pop hx hb hd (zval_cat v) (go _ _ _ _ _ _ _ _ _ h2 hL hkc hns hR hS hl)
  case goto off => obtain ⟨rfl, he⟩ := he; exact lv_goto hx hb hd (zt_spec he) (go _ _ _ _ _ _ _ _ _ hw hL hkc hns hR hS hl)
  case ifCond cc off =>
    obtain ⟨rfl, he⟩ := he
    obtain ⟨x, st', rfl, h1, h2⟩ := z1i_spec hw
    have a1 := fun q => go _ _ _ _ _ _ _ _ _ (h1 q) hL hkc hns hR hS hl
    have a2 := fun q => go _ _ _ _ _ _ _ _ _ (h2 q) hL hkc hns hR hS hl
    cases cc
    · exact lv_if_eq hx hb hd (zt_spec he) a1 a2
    · exact lv_if_ne hx hb hd (zt_spec he) a1 a2
    · exact lv_if_lt hx hb hd (zt_spec he) a1 a2
    · exact lv_if_ge hx hb hd (zt_spec he) a1 a2
    · exact lv_if_gt hx hb hd (zt_spec he) a1 a2
    · exact lv_if_le hx hb hd (zt_spec he) a1 a2
  case if_icmp cc off =>
    obtain ⟨rfl, he⟩ := he
    obtain ⟨y, x, st', rfl, h1, h2⟩ := z2i_spec hw
    have a1 := fun q => go _ _ _ _ _ _ _ _ _ (h1 q) hL hkc hns hR hS hl
    have a2 := fun q => go _ _ _ _ _ _ _ _ _ (h2 q) hL hkc hns hR hS hl
    cases cc
    · exact lv_icmp_eq hx hb hd (zt_spec he) a1 a2
    · exact lv_icmp_ne hx hb hd (zt_spec he) a1 a2
    · exact lv_icmp_lt hx hb hd (zt_spec he) a1 a2
    · exact lv_icmp_ge hx hb hd (zt_spec he) a1 a2
    · exact lv_icmp_gt hx hb hd (zt_spec he) a1 a2
    · exact lv_icmp_le hx hb hd (zt_spec he) a1 a2
  case ifnull off =>
    obtain ⟨rfl, he⟩ := he
    obtain ⟨a, st', rfl, h1, h2⟩ := z1a_spec hw
    show zWW E M Q p e s m args below meth c H locs k n pc ls (zrf a :: st'.map zval)
    rcases zrf_cases a with ⟨ha, hx0⟩ | ⟨ha, hx0⟩ <;> rw [hx0]
    · exact lv_ifnullN hx hb hd (zt_spec he) (go _ _ _ _ _ _ _ _ _ (h1 ha) hL hkc hns hR hS hl)
    · exact lv_ifnull hx hb hd (go _ _ _ _ _ _ _ _ _ (h2 ha) hL hkc hns hR hS hl)
  case ifnonnull off =>
    obtain ⟨rfl, he⟩ := he
    obtain ⟨a, st', rfl, h1, h2⟩ := z1a_spec hw
    show zWW E M Q p e s m args below meth c H locs k n pc ls (zrf a :: st'.map zval)
    rcases zrf_cases a with ⟨ha, hx0⟩ | ⟨ha, hx0⟩ <;> rw [hx0]
    · exact lv_ifnonnullN hx hb hd (go _ _ _ _ _ _ _ _ _ (h2 ha) hL hkc hns hR hS hl)
    · exact lv_ifnonnull hx hb hd (zt_spec he) (go _ _ _ _ _ _ _ _ _ (h1 ha) hL hkc hns hR hS hl)
  case tableswitch dflt lo hi offs =>
    obtain ⟨⟨h1, h2⟩, h3⟩ := he
    obtain ⟨x, st', rfl, h4⟩ := z1i_spec hw
    unfold zts at h4
    by_cases ho : x.toInt < lo ∨ hi < x.toInt
    · rw [if_pos ho] at h4
      exact lv_tableOut hx hb hd ho (zt_spec h1) (go _ _ _ _ _ _ _ _ _ h4 hL hkc hns hR hS hl)
    · rw [if_neg ho] at h4
      have hlt : (x.toInt - lo).toNat < offs.toList.length := by omega
      have hget : offs.toList[(x.toInt - lo).toNat]? = some offs.toList[(x.toInt - lo).toNat] := List.getElem?_eq_getElem hlt
      rw [hget] at h4
      have h5 := List.all_eq_true.mp h2 _ (List.getElem_mem hlt)
      simp only [decide_eq_true_eq] at h5
      exact lv_tableIn hx hb hd (fun q => ho (Or.inl q)) (fun q => ho (Or.inr q)) (by rw [← Array.getElem?_toList]; exact hget) (zt_spec h5) (go _ _ _ _ _ _ _ _ _ h4 hL hkc hns hR hS hl)
  case lookupswitch dflt ps =>
    obtain ⟨⟨h1, h2⟩, h3⟩ := he
    obtain ⟨x, st', rfl, h4⟩ := z1i_spec hw
    have hoff : ∀ (l : List (Int × Int)) (x : Int), l.all (fun o => decide (0 ≤ (pc : Int) + o.2)) = true → 0 ≤ (pc : Int) + Op.lookupswitch.offset l dflt x := by
      intro l x
      induction l with
      | nil => intro _; exact h2
      | cons o l ih =>
        intro ha
        simp only [List.all_cons, Bool.and_eq_true, decide_eq_true_eq] at ha
        obtain ⟨o1, o2⟩ := o
        rw [Op.lookupswitch.offset_cons]
        split
        · exact ha.1
        · exact ih (by simpa using ha.2)
    exact lv_lookup hx hb hd h1 rfl (zt_spec (hoff _ _ h3)) (go _ _ _ _ _ _ _ _ _ h4 hL hkc hns hR hS hl)
  case getfield idx =>
    obtain ⟨rfl, ⟨h1, h2⟩, h3⟩ := he
    obtain ⟨a, st', rfl, h4, h5⟩ := z1a_spec hw
    have h6 := go _ _ _ _ _ _ _ _ _ h5 hL hkc hns hR hS hl
    rw [List.map_cons, zfv_spec] at h6
    exact zs_get F hR h1 h2 h3 h4 hd h6
  case putfield idx =>
    obtain ⟨rfl, ⟨⟨h1, h2⟩, h3⟩, h3b⟩ := he
    have hfin : (zT lk.1 lk.2.1).2.2.2 = false ∨ ((zT lk.1 lk.2.1).2.2.2 = true ∧ (zMy M).name = "<init>" ∧ (zT lk.1 lk.2.1).1 = (zMy M).cls) := by
      simp only [Bool.or_eq_true, decide_eq_true_eq] at h3b
      exact h3b
    obtain ⟨v, a, st', rfl, h4, h5⟩ := zva_spec hw
    unfold zput at h5
    split at h5
    · rename_i x hr
      refine zs_put0 (v := .int x) (h' := zpi h a lk.2.1 x) F hR hS h1 h2 h3 h4 hfin ?_ ?_ rfl rfl (zpi_same h a lk.2.1 x) (zfld_upd_i hr) hd (fun H' locs' r1 r2 => go _ _ _ _ _ _ _ _ _ h5 hL hkc hns r1 r2 hl)
      · rw [ztyb _ h1 _ h2 hr]; rfl
      · rw [ztyb _ h1 _ h2 hr]; rfl
    · rename_i x hr
      exact zs_put0 (v := zrf x) (h' := zpr h a lk.2.1 x) F hR hS h1 h2 h3 h4 hfin (zrf_fits _ hr x).1 (zrf_fits _ hr x).2 rfl rfl (zpr_same h a lk.2.1 x) (zfld_upd_r hr) hd (fun H' locs' r1 r2 => go _ _ _ _ _ _ _ _ _ h5 hL hkc hns r1 r2 hl)
    · exact h5.elim
  case iaload =>
    obtain ⟨rfl, -⟩ := he
    obtain ⟨i, a, st', rfl, h4⟩ := zia_spec hw
    split at h4
    · exact zs_iald F hR h4.1 h4.2.1 hd (go _ _ _ _ _ _ _ _ _ h4.2.2 hL hkc hns hR hS hl)
    · obtain ⟨rfl, h5, h6⟩ := h4
      obtain ⟨s1, s2, s3⟩ := F.2.2.2.2.2.2.1.2.2.2
      show zWW E M Q p e s m args below meth c H locs k n pc ls (.int i :: .ref (zEb E) :: st'.map zval)
      exact va_sld hx hb s1 s2 (Nat.not_le.mpr s3) hS h5 hd (go _ _ _ _ _ _ _ _ _ h6 hL hkc hns hR hS hl)
  case arraylength =>
    obtain ⟨rfl, -⟩ := he
    obtain ⟨a, st', rfl, rfl, h6⟩ := z1a_spec hw
    obtain ⟨s1, s2, s3⟩ := F.2.2.2.2.2.2.1.2.2.2
    show zWW E M Q p e s m args below meth c H locs k n pc ls (.ref (zEb E) :: st'.map zval)
    exact va_slen hx hb s1 s2 (Nat.not_le.mpr s3) hS hd (go _ _ _ _ _ _ _ _ _ h6 hL hkc hns hR hS hl)
  case caload =>
    obtain ⟨rfl, -⟩ := he
    obtain ⟨i, a, st', rfl, h4, h5, h6⟩ := zia_spec hw
    exact zs_cald F hR h4 h5 hd (go _ _ _ _ _ _ _ _ _ h6 hL hkc hns hR hS hl)
  case aaload =>
    obtain ⟨rfl, -⟩ := he
    obtain ⟨i, a, st', rfl, h4, h5, h6⟩ := zia_spec hw
    exact zs_aald F hR h4 h5 hd (go _ _ _ _ _ _ _ _ _ h6 hL hkc hns hR hS hl)
  case iastore =>
    obtain ⟨rfl, -⟩ := he
    obtain ⟨x, i, a, st', rfl, h4, h5, h6⟩ := ziia_spec hw
    exact zs_iast F hR hS h4 h5 hd (fun H' locs' r1 r2 => go _ _ _ _ _ _ _ _ _ h6 hL hkc hns r1 r2 hl)
  case castore =>
    obtain ⟨rfl, -⟩ := he
    obtain ⟨x, i, a, st', rfl, h4, h5, h6⟩ := ziia_spec hw
    exact zs_cast F hR hS h4 h5 hd (fun H' locs' r1 r2 => go _ _ _ _ _ _ _ _ _ h6 hL hkc hns r1 r2 hl)
  case aastore =>
    obtain ⟨rfl, -⟩ := he
    obtain ⟨x, i, a, st', rfl, h4, h5, h6, h7⟩ := zaia_spec hw
    exact zs_aast F hR hS h4 h5 h6 hd (fun H' locs' r1 r2 => go _ _ _ _ _ _ _ _ _ h7 hL hkc hns r1 r2 hl)
  case new idx =>
    obtain ⟨rfl, ⟨⟨h1, h2⟩, h3⟩, h4⟩ := he
    obtain ⟨⟨h5, h6⟩, h7⟩ := hw
    exact zs_new F hR hS h1 h2 h3 h4 h5 h6 hd (fun H' r1 r2 => go _ _ _ _ _ _ _ _ _ h7 hL h5 h6 r1 r2 hl)
  case newarray t =>
    obtain ⟨rfl, ⟨h1, h2⟩, h3⟩ := he
    obtain ⟨x, st', rfl, ⟨h4, h5, h6, h7⟩, h8⟩ := z1i_spec hw
    exact zs_newa F hR hS h1 h2 h3 h4 h5 h6 h7 hd (fun H' r1 r2 => go _ _ _ _ _ _ _ _ _ h8 hL h6 h7 r1 r2 hl)
  case anewarray idx =>
    obtain ⟨rfl, h1, h3⟩ := he
    obtain ⟨x, st', rfl, ⟨h4, h5, h6, h7⟩, h8⟩ := z1i_spec hw
    exact zs_anewa F hR hS h1 h3 h4 h5 h6 h7 hd (fun H' r1 r2 => go _ _ _ _ _ _ _ _ _ h8 hL h6 h7 r1 r2 hl)
  case invokespecial idx =>
    obtain ⟨rfl, he⟩ := he
    split at hw
    · rename_i hnone
      rw [hnone] at he
      simp only [Bool.and_eq_true, decide_eq_true_eq] at he
      obtain ⟨⟨⟨h1, h2⟩, h3⟩, h4, h5⟩ := he
      obtain ⟨a, st', rfl, ha, h6⟩ := z1a_spec hw
      obtain ⟨h7, h8⟩ := zshort_spec h6
      show zWW E M Q p e s m args below meth c H locs k n pc ls (zrf a :: st'.map zval)
      rw [zrf_pos ha]
      refine W.objInit hx hb hown (hts _ (zw_spec h1)) (hts _ (zw_spec h2)) (hts _ (zw_spec h3)) rfl (by rw [hml]; exact hlen) rfl hd h4 ?_ (go _ _ _ _ _ _ _ _ _ h8 hL hkc hns hR hS hl)
      have := lv_room (m := m) (pc := pc) (ls := ls) (rest := Value.ref (a - 1) :: st'.map zval) (st := st'.map zval) (by rw [zs_cat]; exact h7)
      omega
    · rename_i M' hsome
      rw [hsome] at he
      simp only [Bool.and_eq_true, decide_eq_true_eq] at he
      obtain ⟨h1, h2, h3⟩ := he
      obtain ⟨av, st1, rfl, hn, h4⟩ := zpop_spec _ _ _ _ hw
      rw [List.append_nil] at h4
      obtain ⟨b, rest, rfl, hb', h5⟩ := z1a_spec h4
      obtain ⟨h6, h7⟩ := zshort_spec h5
      obtain ⟨h8, h9⟩ := zroom_spec hkc hns h7
      exact zs_callI F hR hS hlen h1 h2 hb' hn h6 h8 (zback_spec h9) hd (fun r h' H1 locs1 q r1 r2 => by
        have := go _ _ _ _ _ _ _ _ _ q hL h8.1 h8.2 r1 r2 hl
        rw [List.map_append, ← Option.toList_map] at this
        exact this)
  case invokevirtual idx =>
    obtain ⟨rfl, he⟩ := he
    split at hw
    · exact hw.elim
    · rename_i M' hsome
      rw [hsome] at he
      simp only [Bool.and_eq_true, decide_eq_true_eq] at he
      obtain ⟨h1, h2, hcls, hnest⟩ := he
      obtain ⟨av, st1, rfl, hn, h4⟩ := zpop_spec _ _ _ _ hw
      rw [List.append_nil] at h4
      obtain ⟨b, rest, rfl, h4⟩ := z1a_spec h4
      obtain ⟨h4, h5⟩ := h4
      have hb0 := (hR.pos (a := b) (by omega)).1
      have hrecv : ∃ cell : Cell, H[b - 1]? = some cell ∧ cell.vm.isStatics = false ∧ s.vm.findClass (zMy M').cls = some cell.cls := by
        rw [← hcls.2]
        exact zs_recv F hR hcls.1 h4
      obtain ⟨h6, h7⟩ := zshort_spec h5
      obtain ⟨h8, h9⟩ := zroom_spec hkc hns h7
      exact zs_callV F hR hS hlen h1 h2 hnest hb0 hrecv hn h6 h8 (zback_spec h9) hd (fun r h' H1 locs1 q r1 r2 => by
        have := go _ _ _ _ _ _ _ _ _ q hL h8.1 h8.2 r1 r2 hl
        rw [List.map_append, ← Option.toList_map] at this
        exact this)
  case invokestatic idx =>
    obtain ⟨rfl, he⟩ := he
    split at hw
    · rename_i hnone
      rw [hnone] at he
      simp only at he
      split at hw
      · rename_i h0
        rw [h0] at he
        simp only [Bool.and_eq_true, decide_eq_true_eq] at he
        obtain ⟨⟨⟨⟨h1, h2⟩, h3⟩, h4⟩, h5, h6⟩ := he
        obtain ⟨y, x, st', rfl, h7⟩ := z2i_spec hw
        obtain ⟨h8, h9⟩ := zshort_spec h7
        exact va_mmin hx hb (by rw [hml]; exact hlen.symm) hown (hts _ (zw_spec h1)) (hts _ (zw_spec h2)) (hts _ (zw_spec h3)) (hts _ (zw_spec h4)) h5 (by rw [zs_cat]; omega) hkc hns hd (go _ _ _ _ _ _ _ _ _ h9 hL hkc hns hR hS hl)
      · rename_i h0
        rw [h0] at he
        simp only [Bool.and_eq_true, decide_eq_true_eq] at he
        obtain ⟨⟨⟨⟨h1, h2⟩, h3⟩, h4⟩, h5, h6⟩ := he
        obtain ⟨y, x, st', rfl, h7⟩ := z2i_spec hw
        obtain ⟨h8, h9⟩ := zshort_spec h7
        exact va_mmax hx hb (by rw [hml]; exact hlen.symm) hown (hts _ (zw_spec h1)) (hts _ (zw_spec h2)) (hts _ (zw_spec h3)) (hts _ (zw_spec h4)) h5 (by rw [zs_cat]; omega) hkc hns hd (go _ _ _ _ _ _ _ _ _ h9 hL hkc hns hR hS hl)
      · rename_i h0
        rw [h0] at he
        simp only [Bool.and_eq_true, decide_eq_true_eq] at he
        obtain ⟨⟨⟨⟨h1, h2⟩, h3⟩, h4⟩, h5, h6⟩ := he
        obtain ⟨y, x, st', rfl, ⟨q1, q2⟩, h7⟩ := z2i_spec hw
        obtain ⟨h8, h9⟩ := zshort_spec h7
        exact zs_fmod F hlen hkc hns h1 h2 h3 h4 q1 q2 h5 (by rw [zs_cat]; omega) hd (go _ _ _ _ _ _ _ _ _ h9 hL hkc hns hR hS hl)
      · rename_i h0 h1' h2'
        have he : (((zw lk.2.1 (.methodLink (zMy M).cls idx arraycopyName) = true ∧ zw lk.2.2.1 (.native arraycopyName) = true) ∧ zw lk.2.2.2.1 (.static arraycopyName) = true) ∧ zw lk.2.2.2.2.1 (.initialized "java/lang/System") = true) ∧ (1 ≤ (zMo M).frames ∧ 26 ≤ (zMo M).locals) := by
          split at he
          · exact absurd (by assumption) h0
          · exact absurd (by assumption) h1'
          · exact absurd (by assumption) h2'
          · simpa only [Bool.and_eq_true, decide_eq_true_eq] using he
        obtain ⟨⟨⟨⟨h1, h2⟩, h3⟩, h4⟩, h5, h6⟩ := he
        obtain ⟨x, dp, d, sp, s', st', rfl, ⟨q1, q2, q3, q4, q5, q6, q7⟩, h7⟩ := zcp_spec hw
        obtain ⟨h8, h9⟩ := zshort_spec h7
        exact zs_copy F hR hS hlen q1 q2 h1 h2 h3 h4 q3 q4 q5 q6 q7 h5 (by rw [zs_cat]; show st'.length + 18 ≤ _; omega) hd (fun H' locs' r1 r2 => go _ _ _ _ _ _ _ _ _ h9 hL hkc hns r1 r2 hl)
    · rename_i M' hsome
      rw [hsome] at he
      simp only [Bool.and_eq_true, decide_eq_true_eq] at he
      obtain ⟨h1, h2⟩ := he
      obtain ⟨av, rest, rfl, hn, h5⟩ := zpop_spec _ _ _ _ hw
      rw [List.append_nil] at h5
      obtain ⟨h6, h7⟩ := zshort_spec h5
      obtain ⟨h8, h9⟩ := zroom_spec hkc hns h7
      exact zs_callS F hR hS hlen h1 h2 hn h6 h8 (zback_spec h9) hd (fun r h' H1 locs1 q r1 r2 => by
        have := go _ _ _ _ _ _ _ _ _ q hL h8.1 h8.2 r1 r2 hl
        rw [List.map_append, ← Option.toList_map] at this
        exact this)
  case ireturn =>
    obtain ⟨rfl, -⟩ := he
    obtain ⟨x, st', rfl, h0⟩ := z1i_spec hw
    obtain ⟨rfl, h1⟩ := zemp_spec h0
    refine W.widen (k := (zMo M).cells) (n := (zMo M).slots) hkc hns ?_
    have fin : Q (some (.inl x)) h → ∀ t : State, t.heap = H → s.WarmedH t.vm → zQc E Q args s (.returned (some (.int x))) t := fun h2 t ht hW => ⟨⟨some (.inl x), h, rfl, h2, by rw [ht]; exact hR⟩, hS.F ht⟩
    unfold znar at h1
    split at h1
    · rename_i h0
      exact W.iret hx hb (by rw [hrt, h0]) (fin h1) hS.2.2 hd
    · rename_i h0
      exact W.zret hx hb (by rw [hrt, h0]) (by rcases h1.1 with rfl | rfl <;> rfl) (fin h1.2) hS.2.2 hd
    · rename_i t _ _ h0
      exact W.zret hx hb (by rw [hrt, h0]) h1.1 (fin h1.2) hS.2.2 hd
    · exact h1.elim
  case areturn =>
    obtain ⟨rfl, he⟩ := he
    obtain ⟨x, st', rfl, h0⟩ := z1a_spec hw
    obtain ⟨rfl, h2⟩ := zemp_spec h0
    refine W.widen (k := (zMo M).cells) (n := (zMo M).slots) hkc hns ?_
    split at he
    · rename_i t h0
      refine W.aret (v := zrf x) (rt := t) hx hb (by rw [hrt, h0]) (by cases t <;> first | (simp [zisr] at he; done) | exact Or.inl ⟨_, rfl⟩ | exact Or.inr ⟨_, rfl⟩) (by rcases zrf_cases x with ⟨-, hx0⟩ | ⟨-, hx0⟩ <;> rw [hx0]; exact Or.inl rfl; exact Or.inr ⟨_, rfl⟩) (fun t ht hW => ⟨⟨some (.inr x), h, rfl, h2, by rw [ht]; exact hR⟩, hS.F ht⟩) hS.2.2 hd
    · cases he
  case return_ =>
    obtain ⟨rfl, he⟩ := he
    obtain ⟨rfl, h2⟩ := zemp_spec hw
    refine W.widen (k := (zMo M).cells) (n := (zMo M).slots) hkc hns ?_
    exact W.vret hx hb (by rw [hrt, he]) (fun t ht hW => ⟨⟨none, h, rfl, h2, by rw [ht]; exact hR⟩, hS.F ht⟩) hS.2.2 hd
end ZI
/-- a method's code: its rows (pc, instruction, its length, what it links), the heads of its loops -/
abbrev zK : Type := zM × List (Nat × zIns × Nat × zLk) × List Nat
def zrow (C : zK) (pc : Nat) : Option (Nat × zIns × Nat × zLk) := C.2.1.find? (fun r => Nat.beq r.1 pc)
def zhd (C : zK) (pc : Nat) : Bool := C.2.2.any (fun q => Nat.beq q pc)
def znx (E : zE) (C : zK) (Q : Option zV → zH → Prop) (w : zKt) : zKt := fun pc L st h k n => match zhd C pc with
  | true => zJ E C.1 Q pc L st h k n
  | false => w pc L st h k n
def zwp (E : zE) (C : zK) (Q : Option zV → zH → Prop) : Nat → zKt
  | 0 => fun pc L st h k n => zJ E C.1 Q pc L st h k n
  | f + 1 => fun pc L st h k n => match zrow C pc with
    | some r => zwpI E C.1 Q (znx E C Q (zwp E C Q f)) r.2.1 r.2.2.2 pc L st h k n
    | none => False
def zOKB (C : zK) : Bool := C.2.1.all (fun r => zentB C.1 r.1 r.2.1 r.2.2.1 r.2.2.2 && decide (decode (zMb C.1) r.1 = .ok (r.2.1, r.2.2.1)))
theorem zwp_sound {E : zE} {C : zK} {Q : Option zV → zH → Prop} (hC : zOKB C = true) : ∀ f pc L st h k n, zwp E C Q f pc L st h k n → zJ E C.1 Q pc L st h k n
  | 0, _, _, _, _, _, _, hw => hw
  | f + 1, pc, L, st, h, k, n, hw => by
    simp only [zwp] at hw
    split at hw
    · rename_i r hr
      have h1 := List.find?_some hr
      have h2 := List.mem_of_find?_eq_some hr
      have h3 := List.all_eq_true.mp hC r h2
      simp only [Bool.and_eq_true, decide_eq_true_eq] at h3
      have h4 : r.1 = pc := Nat.eq_of_beq_eq_true h1
      rw [h4] at h3
      refine zI_sound (fun pc L st h k n hk => ?_) h3.2 h3.1 hw
      unfold znx at hk
      split at hk
      · exact hk
      · exact zwp_sound hC f _ _ _ _ _ _ hk
    · exact hw.elim
/-- from a method's head: its contract -/
theorem zwp_met {E : zE} {C : zK} {av : List zV} {h : zH} {Q : Option zV → zH → Prop} (hM : zMB C.1 = true) (hC : zOKB C = true) (hlen : av.length ≤ zMl C.1) (f : Nat) (hw : zwp E C Q f 0 (av.map some ++ List.replicate (zMl C.1 - av.length) none) [] h 0 0) : zMet E C.1 av h Q := by
  obtain ⟨w1, w2, -⟩ := zMB_spec hM
  refine Met.ofW (cc := zMb C.1) (maxL := zMl C.1) (ret := zMr C.1) w1 rfl ?_
  intro p e s m args below meth c s₁ B hml hv
  obtain ⟨rfl, hR, hKK⟩ := hv
  have hts := atoms_spec (ws := zws C.1) B.pre
  have hown : s.vm.findClass (zMy C.1).cls = some m.cls := findClass_of_methodNamed B.named
  have F : zFix E C.1 p s m meth (av.map zval).toArray c := ⟨B.exec, B.bytes, hml, B.returns, hown, fun w hw => hts w (List.mem_cons_of_mem _ hw), hKK, B.notSynchronized, (name_of_methodNamed B.named B.method).1⟩
  have hl := lv_entry (av.map zval) (n := zMl C.1) (by rw [zlg_len]; exact hlen)
  rw [lg_entry_eq]
  rw [zL_entry av 0, ← zLl_pad (av.map some) (zMl C.1 - av.length) 0] at hl
  exact zwp_sound hC f 0 _ _ _ _ _ hw (by rw [List.length_append, List.length_map, List.length_replicate]; omega) (Nat.zero_le _) (Nat.zero_le _) p e s m _ below meth c F s.heap [] _ hR va_S.rf hl
def zQi (Q : Int32 → zH → Prop) : Option zV → zH → Prop := fun r h => match r with
  | some (.inl x) => Q x h
  | _ => False
def zQa (Q : Nat → zH → Prop) : Option zV → zH → Prop := fun r h => match r with
  | some (.inr x) => Q x h
  | _ => False
def zQv (Q : zH → Prop) : Option zV → zH → Prop := fun r h => match r with
  | none => Q h
  | _ => False
theorem zQi_def (Q : Int32 → zH → Prop) (x : Int32) (h : zH) : zQi Q (some (.inl x)) h = Q x h := rfl
theorem zQa_def (Q : Nat → zH → Prop) (x : Nat) (h : zH) : zQa Q (some (.inr x)) h = Q x h := rfl
theorem zQv_def (Q : zH → Prop) (h : zH) : zQv Q none h = Q h := rfl
theorem zmi_of {E : zE} {M : zM} {av : List zV} {h : zH} {Q : Int32 → zH → Prop} (hM : zMet E M av h (zQi Q)) : zMi E M av h Q := hM.mono fun r h' q => by
  unfold zQi at q; split at q
  · exact ⟨_, rfl, q⟩
  · exact q.elim
theorem zma_of {E : zE} {M : zM} {av : List zV} {h : zH} {Q : Nat → zH → Prop} (hM : zMet E M av h (zQa Q)) : zMa E M av h Q := hM.mono fun r h' q => by
  unfold zQa at q; split at q
  · exact ⟨_, rfl, q⟩
  · exact q.elim
theorem zmv_of {E : zE} {M : zM} {av : List zV} {h : zH} {Q : zH → Prop} (hM : zMet E M av h (zQv Q)) : zMv E M av h Q := hM.mono fun r h' q => by
  unfold zQv at q; split at q
  · exact ⟨rfl, q⟩
  · exact q.elim
def ztall (P : Nat → Prop) (pc : Nat) (x : Int) : List Int → Int → Prop
  | [], _ => True
  | o :: os, lo => (x = lo → P (zt pc o)) ∧ ztall P pc x os (lo + 1)
theorem ztall_spec (P : Nat → Prop) (pc : Nat) (x : Int) : ∀ (os : List Int) (lo : Int), ztall P pc x os lo ↔ ∀ i : Nat, i < os.length → x = lo + i → P (zt pc (os[i]?.getD 0))
  | [], lo => by simp [ztall]
  | o :: os, lo => by
    rw [ztall, ztall_spec P pc x os (lo + 1)]
    constructor
    · rintro ⟨h1, h2⟩ i hi hx
      cases i with
      | zero => exact h1 (by simpa using hx)
      | succ i => simpa using h2 i (by simpa using hi) (by rw [hx]; push_cast; omega)
    · intro h
      exact ⟨fun hx => by simpa using h 0 (by simp) (by simpa using hx), fun i hi hx => by simpa using h (i + 1) (by simpa using hi) (by rw [hx]; push_cast; omega)⟩
theorem zts_all (P : Nat → Prop) (pc : Nat) (d lo hi : Int) (offs : List Int) (x : Int32) (hl : hi - lo + 1 = (offs.length : Int)) : P (zts pc d lo hi offs x) = ((x.toInt < lo ∨ hi < x.toInt → P (zt pc d)) ∧ ztall P pc x.toInt offs lo) := by
  apply propext
  rw [ztall_spec]
  unfold zts
  constructor
  · intro h
    refine ⟨fun ho => by rw [if_pos ho] at h; exact h, fun i hi hx => ?_⟩
    rw [if_neg (by omega), show (x.toInt - lo).toNat = i by omega] at h
    exact h
  · rintro ⟨h1, h2⟩
    by_cases ho : x.toInt < lo ∨ hi < x.toInt
    · rw [if_pos ho]; exact h1 ho
    · rw [if_neg ho]
      exact h2 _ (by omega) (by omega)
def zlall (P : Nat → Prop) (pc : Nat) (d x : Int) : List (Int × Int) → Prop
  | [] => P (zt pc d)
  | o :: os => (x = o.1 → P (zt pc o.2)) ∧ (¬ x = o.1 → zlall P pc d x os)
theorem zls_all (P : Nat → Prop) (pc : Nat) (d x : Int) : ∀ (ps : List (Int × Int)), P (zt pc (Op.lookupswitch.offset ps d x)) = zlall P pc d x ps
  | [] => by rw [Op.lookupswitch.offset_nil]; rfl
  | (a, o) :: r => by
    apply propext
    rw [Op.lookupswitch.offset_cons, zlall, ← zls_all P pc d x r]
    by_cases h : x = a
    · simp [h]
    · rw [if_neg (Ne.symm h)]
      simp [h]
theorem zwp_at {E : zE} {C : zK} {Q : Option zV → zH → Prop} {f pc : Nat} {L : List (Option zV)} {st : List zV} {h : zH} {k n : Nat} {r : Nat × zIns × Nat × zLk} (hr : zrow C pc = some r) : zwp E C Q (f + 1) pc L st h k n = zwpI E C.1 Q (znx E C Q (zwp E C Q f)) r.2.1 r.2.2.2 pc L st h k n := by
  simp only [zwp, hr]
