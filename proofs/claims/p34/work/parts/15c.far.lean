/-! Far changes, and what undo restores. -/
def NZ (r : Nat → Int32) : Prop := ∀ j, j < 2 → r (433 + 434 * j) = nI 0
/-- no snapshot is taken, now or in the history -/
def NSs (r sv : Nat → Int32) (s : Nat) : Prop := NZ r ∧ ∀ i, i < s → NZ (fun k => sv (1301 * i + k))
theorem n01 : nI 0 ≠ nI 1 := by decide
theorem SN_far {h h' : zH} {B st : Nat} {r : Nat → Int32} (hS : SN h B st r) (hz : NZ r) (hs : SM h h' (st + 42)) : SN h' B st r := by
  intro j hj
  rw [hs.2.2.2]
  rcases hS j hj with q | ⟨q1, -⟩
  · exact Or.inl q
  · exact absurd ((hz j hj).symm.trans q1) n01
theorem SR_far {h h' : zH} {B st : Nat} {r : Nat → Int32} (hS : SR h B st r) (hz : NZ r) (hs : SAME h h' st (st + 43)) : SR h' B st r :=
  ⟨WX_tr hS.1 (SAME_mono hs (by omega) (by omega)), SN_far hS.2 hz (hs _ (by omega) (by omega))⟩
theorem CI_far {h h' : zH} {x s L : Nat} {r sv tx : Nat → Int32} (hC : CI' h x r sv tx s L) (hN : NSs r sv s) (hz : zsz h ≤ zsz h') (hS : SAME h h' x (x + 348)) : CI' h' x r sv tx s L := by
  obtain ⟨hX, ⟨o, o1, o2, o3, o4, o5, o6⟩, t1, t2, t3⟩ := hC
  have hX0 := hX
  obtain ⟨-, -, -, p1, p2, p3, -⟩ := hX
  refine ⟨XS_of hX0 hz (fun c hc => ?_) (SP_tr p1 (SAME_mono hS (by omega) (by omega))) (fun i hi => SP_tr (p2 i hi) (SAME_mono hS (by omega) (by omega))) (WP_tr p3 (SAME_mono hS (by omega) (by omega))), ⟨o, ?_, o2, ?_, o4, SR_far o5 hN.1 (SAME_mono hS (by omega) (by omega)), fun i hi => SR_far (o6 i hi) (hN.2 i hi) (SAME_mono hS (by omega) (by have : (o + i) % 6 < 6 := Nat.mod_lt _ (by omega); omega))⟩, ?_, t2, fun k hk => ?_⟩
  · obtain ⟨e1, e2, e3, e4⟩ := hS c (by omega) (by omega)
    exact ⟨e1, e2, e4⟩
  · rw [(hS (x + 44) (by omega) (by omega)).2.2.1]; exact o1
  · rw [(hS (x + 44) (by omega) (by omega)).2.2.1]; exact o3
  · rw [(hS (x + 304) (by omega) (by omega)).2.2.1]; exact t1
  · rw [(hS (x + 305) (by omega) (by omega)).2.2.1]; exact t3 k hk
theorem svN_le {s : Nat} (h : s ≤ 5) : svN s ≤ 5 := by unfold svN; split <;> omega
theorem svF_at {r sv tx : Nat → Int32} {s i k : Nat} (hs : s ≤ 5) (hi : i < svN s) (hk : k < 1301) : svF (FF r sv tx) s (1301 * i + k) = if i + 1 = svN s then r k else if s = 5 then sv (1301 * (i + 1) + k) else sv (1301 * i + k) := by
  unfold svF svN at *
  by_cases h5 : s = 5
  · rw [if_pos h5] at hi ⊢
    rw [if_pos h5, if_pos h5]
    show va_cpy r (va_cpy sv sv 1301 0 5204) 0 5204 1301 (1301 * i + k) = _
    by_cases h4 : i + 1 = 5
    · rw [if_pos h4]
      unfold va_cpy
      rw [if_pos (by omega)]
      exact congrArg r (by omega)
    · rw [if_neg h4, pk_cpy_out (by omega)]
      unfold va_cpy
      rw [if_pos (by omega)]
      exact congrArg sv (by omega)
  · rw [if_neg h5] at hi ⊢
    rw [if_neg h5, if_neg h5]
    show va_cpy r sv 0 (1301 * s) 1301 (1301 * i + k) = _
    by_cases h4 : i + 1 = s + 1
    · rw [if_pos h4]
      unfold va_cpy
      rw [if_pos (by omega)]
      exact congrArg r (by omega)
    · rw [if_neg h4, pk_cpy_out (by omega)]
theorem svN_c (s : Nat) : (s = 5 ∧ svN s = 5) ∨ (s ≠ 5 ∧ svN s = s + 1) := by unfold svN; split <;> omega
theorem NS_act {r r' sv tx : Nat → Int32} {s : Nat} (hN : NSs r sv s) (hs : s ≤ 5) (hr : ∀ k, 433 ≤ k → r' k = r k) : NSs r' (svF (FF r sv tx) s) (svN s) := by
  have hc := svN_c s
  refine ⟨fun j hj => by rw [hr _ (by omega)]; exact hN.1 j hj, fun i hi j hj => ?_⟩
  show svF (FF r sv tx) s (1301 * i + (433 + 434 * j)) = nI 0
  rw [svF_at hs hi (by omega)]
  split
  · exact hN.1 j hj
  · rename_i h1
    split
    · rename_i h2
      exact hN.2 (i + 1) (by omega) j hj
    · rename_i h2
      exact hN.2 i (by omega) j hj
theorem undo_r {r r' sv tx : Nat → Int32} {s s' : Nat} (hs : s ≤ 5) (hr : ∀ k, 433 ≤ k → r' k = r k) (h1 : svN s = s' + 1) : va_cpy (svF (FF r sv tx) s) r' (1301 * s') 0 1301 = r := by
  funext k
  by_cases hk : k < 1301
  · have e := svF_at (r := r) (sv := sv) (tx := tx) hs (show s' < svN s by omega) hk
    rw [if_pos (by omega)] at e
    unfold va_cpy
    rw [if_pos (by omega)]
    rw [← e]
    exact congrArg _ (by omega)
  · rw [pk_cpy_out (by omega), hr k (by omega)]
theorem NS_less {r sv : Nat → Int32} {s s' : Nat} (hN : NSs r sv s) (h : s' ≤ s) : NSs r sv s' := ⟨hN.1, fun i hi => hN.2 i (by omega)⟩
