/-! Both new objects. -/
def rI (k : Nat) : Int32 := if 7 ≤ k ∧ k < 21 then nI 50 else if 21 ≤ k ∧ k < 221 then nI 3 else 0
def fo (a : Nat) (v : Int32) (n : Nat) (f : Nat → Int32) (k : Nat) : Int32 := if a ≤ k ∧ k < a + n then v else f k
theorem fo_0 (a : Nat) (v : Int32) (f : Nat → Int32) : fo a v 0 f = f := funext fun k => if_neg (by omega)
theorem fo_s (a : Nat) (v : Int32) (n : Nat) (f : Nat → Int32) : zup (fo a v n f) (a + n) v = fo a v (n + 1) f := by
  funext k
  unfold zup fo
  by_cases e : k = a + n
  · rw [if_pos e, if_pos (by omega)]
  · rw [if_neg e]
    by_cases q : a ≤ k ∧ k < a + n
    · rw [if_pos q, if_pos (by omega)]
    · rw [if_neg q, if_neg (by omega)]
theorem rI_z {k : Nat} (h : k < 7 ∨ 221 ≤ k) : rI k = 0 := by unfold rI; rw [if_neg (by omega), if_neg (by omega)]
theorem rI_fo : fo 21 (nI 3) 200 (fo 7 (nI 50) 14 (fun _ => 0)) = rI := by
  funext k
  unfold fo rI
  (repeat' split) <;> (first | rfl | (exfalso; omega))
theorem rI_7 {k : Nat} (h : k < 14) : rI (7 + k) = nI 50 := by unfold rI; rw [if_pos (by omega)]
theorem rI_21 {k : Nat} (h : k < 200) : rI (21 + k) = nI 3 := by unfold rI; rw [if_neg (by omega), if_pos (by omega)]
theorem cl1301 : (nI 1301).toNatClampNeg = 1301 := by decide
theorem cl433 : (nI 433).toNatClampNeg = 433 := by decide
theorem cl6505 : (nI 6505).toNatClampNeg = 6505 := by decide
theorem WX_new {h : zH} {w : Nat} (hN : NW h w) : WX h w rI := by
  obtain ⟨n1, n2, n3, n4, n5, n6, n7⟩ := hN
  have zz : (0 : Int32) = nI 0 := by decide
  have g0 : ∀ f, f < 7 → (fun j => zi h (w + j)) 0 f = rI f := fun f hf => (n3 f hf).trans (rI_z (by omega)).symm
  refine ⟨0, 0, 0, 0, n1, fun k => k, n2, ⟨rI_z (by omega), rI_z (by omega), rI_z (by omega), rI_z (by omega), ⟨by omega, by omega, by omega, by omega⟩, fun u hu => by omega, fun k hk => by omega⟩, ⟨?_, ?_, fun i hi => by omega, fun i hi => by omega, fun i hi => by omega, fun i hi => by omega⟩, ⟨?_, ?_, ?_, ?_, ?_, ?_, ?_⟩, ⟨?_, ?_⟩, ⟨fun i hi => by omega, fun i hi => by omega, fun i hi => by omega, ?_, ?_⟩, ⟨fun i hi => by omega, ?_⟩, fun i hi => by omega, ⟨fun t ht => ht, fun t u _ _ e => e⟩⟩
  · intro k hk; rw [rI_7 hk]; decide
  · intro k hk; rw [rI_21 hk]; decide
  · exact g0 0 (by omega)
  · exact (n3 1 (by omega)).trans (rI_z (by omega)).symm
  · exact (n3 2 (by omega)).trans (rI_z (by omega)).symm
  · exact (n3 3 (by omega)).trans (rI_z (by omega)).symm
  · exact (n3 4 (by omega)).trans (rI_z (by omega)).symm
  · exact (n3 5 (by omega)).trans (rI_z (by omega)).symm
  · exact (n3 6 (by omega)).trans (rI_z (by omega)).symm
  · intro k hk; rw [rI_7 hk]; exact n4 k hk
  · intro k hk; rw [rI_21 hk]; exact n5 k hk
  · intro i _ hi
    exact ⟨(n6 i hi).2.1, fun s hs f _ => (n6 i hi).2.2 s hs f⟩
  · intro i hi
    exact Or.inl (n6 i hi).1
  · intro k _ hk
    exact ⟨(n7 k hk).1, fun f f1 _ => (n7 k hk).2 f (by omega)⟩
theorem SP_new {h : zH} {a : Nat} (hN : NSt h a) : SP h a := by
  obtain ⟨n1, n2, n3, n4, n5, n6, n7⟩ := hN
  exact ⟨n1, n2, n3, n4, n5, n7.1, fun k => k, ⟨fun t ht => ht, fun t u _ _ e => e⟩, n7.2.1⟩
theorem CI_new {h : zH} {x : Nat} {F : Nat → Nat → Int32} (hN : NX h x) (hz : x + 348 ≤ zsz h) (h1 : F 1 = rI) : CI h x F 0 0 := by
  obtain ⟨x1, ⟨x2, x3, x4⟩, x5, ⟨y1, y2, y3, y4, y5⟩, x6, x7⟩ := hN
  refine ⟨⟨x1, ⟨y1, y2, y3, y4, fun i hi => ?_⟩, x6, SP_new x5, fun i hi => ?_, ⟨x7.1, fun k => k, ⟨fun t ht => ht, fun t u _ _ e => e⟩, x7.2.1⟩, hz⟩, ⟨0, x2, by omega, x3, by omega, ⟨?_, ?_⟩, fun i hi => by omega⟩, x4, by omega, fun k hk => by omega⟩
  · rw [(y5 i hi).1]; omega
  · have := SP_new (y5 i hi).2
    rw [show x + (46 + 43 * i) = x + 44 + (2 + 43 * i) by omega]
    exact this
  · rw [h1]; exact WX_new x5.2.2.2.2.2.2
  · intro j hj
    rw [h1]
    exact Or.inl ⟨x5.2.2.2.2.2.1 j hj, rI_z (by omega)⟩
theorem NX_tr {h h' : zH} {x : Nat} (hN : NX h x) (hS : SB h h' (x + 348)) : NX h' x := by
  obtain ⟨x1, x2, x5, ⟨y1, y2, y3, y4, y5⟩, x6, x7⟩ := hN
  obtain ⟨a1, a2, a3, a4⟩ := hS x (by omega)
  obtain ⟨b1, b2, b3, b4⟩ := hS (x + 44) (by omega)
  obtain ⟨c1, c2, c3, c4⟩ := hS (x + 304) (by omega)
  obtain ⟨d1, d2, d3, d4⟩ := hS (x + 44 + 1) (by omega)
  obtain ⟨e1, e2, e3, e4⟩ := hS (x + 305) (by omega)
  obtain ⟨f1, f2, f3, f4⟩ := hS (x + 306) (by omega)
  refine ⟨by rw [a1, a4]; exact x1, by rw [b3, c3]; exact x2, NSt_tr x5 (SB_SAME hS (by omega)), ⟨b1.trans y1, by rw [b4]; exact y2, d1.trans y3, d2.trans y4, fun i hi => ⟨by rw [d4]; exact (y5 i hi).1, NSt_tr (y5 i hi).2 (SB_SAME hS (by omega))⟩⟩, ?_, NW_tr x7 (SB_SAME hS (by omega))⟩
  rw [c1, c4, e1, e2, f1, f2]
  exact x6

