/-! Numbers, functions and counting. -/
def zb (p : Prop) [Decidable p] : Int32 := if p then nI 1 else nI 0
theorem zb_t {p : Prop} [Decidable p] (h : p) : zb p = nI 1 := if_pos h
theorem zb_f {p : Prop} [Decidable p] (h : ¬ p) : zb p = nI 0 := if_neg h
theorem zb_eq0 {p : Prop} [Decidable p] : (zb p = 0) = ¬ p := by
  unfold zb; split <;> simp_all <;> decide
theorem zb_eq1 {p : Prop} [Decidable p] : (zb p = 1) = p := by
  unfold zb; split <;> simp_all <;> decide
theorem zb_eqn1 {p : Prop} [Decidable p] : (zb p = nI 1) = p := zb_eq1
theorem zb_01 {p : Prop} [Decidable p] : (zb p = 0 ∨ zb p = 1) = True := by
  rw [zb_eq0, zb_eq1]; exact eq_true (Decidable.em p).symm
theorem nI01_0 : (nI 0 = 0 ∨ nI 0 = 1) = True := by decide
theorem nI01_1 : (nI 1 = 0 ∨ nI 1 = 1) = True := by decide
theorem zb_iff {p q : Prop} [Decidable p] [Decidable q] (h : p ↔ q) : zb p = zb q := by
  unfold zb; by_cases hp : p
  · rw [if_pos hp, if_pos (h.mp hp)]
  · rw [if_neg hp, if_neg (fun g => hp (h.mpr g))]
theorem vpT {n N : Nat} (h : n < N) (hN : N < 2147483648) : vp_in (nI n) N = True := eq_true (vp_in_nI h hN)
theorem i32b (x : Int32) : -2147483648 ≤ x.toInt ∧ x.toInt ≤ 2147483647 := ⟨Int32.le_toInt x, Int32.toInt_le x⟩
theorem i32lt {x y : Int32} : x < y ↔ x.toInt < y.toInt := Int32.lt_iff_toInt_lt
theorem i32le {x y : Int32} : x ≤ y ↔ x.toInt ≤ y.toInt := Int32.le_iff_toInt_le
theorem i32eq {x y : Int32} : x = y ↔ x.toInt = y.toInt := Int32.toInt_inj.symm
theorem nIn {n : Nat} (h : n < 2147483648) : (nI n).toInt = (n : Int) := nI_toInt h
theorem i32_0 : (0 : Int32).toInt = 0 := rfl
theorem i32_1 : (1 : Int32).toInt = 1 := rfl
theorem i32_m9 : (-9 : Int32).toInt = -9 := rfl
theorem i32_m1 : (-1 : Int32).toInt = -1 := rfl
/-- an Int32 between 0 and n is a number -/
theorem i32of {x : Int32} {n : Nat} (h0 : 0 ≤ x.toInt) (h1 : x.toInt ≤ n) (hn : n < 2147483648) : ∃ j : Nat, j ≤ n ∧ x = nI j := ⟨x.toInt.toNat, by omega, by rw [i32eq, nIn (by omega)]; omega⟩
theorem zup_eq {α : Type} {f : Nat → α} {k j : Nat} {v : α} (h : j = k) : zup f k v j = v := if_pos h
theorem zup_ne {α : Type} {f : Nat → α} {k j : Nat} {v : α} (h : j ≠ k) : zup f k v j = f j := if_neg h
theorem zup_ap {α : Type} (f : Nat → α) (k j : Nat) (v : α) : zup f k v j = if j = k then v else f j := rfl
theorem zup_self {α : Type} (f : Nat → α) (k : Nat) : zup f k (f k) = f := funext fun j => by unfold zup; split <;> simp_all
theorem zup_zup {α : Type} (f : Nat → α) (k : Nat) (x y : α) : zup (zup f k x) k y = zup f k y := funext fun j => by unfold zup; split <;> simp_all
/-- how many below n -/
def ct (p : Nat → Prop) [DecidablePred p] : Nat → Nat
  | 0 => 0
  | n + 1 => ct p n + if p n then 1 else 0
theorem ct_le (p : Nat → Prop) [DecidablePred p] : ∀ n, ct p n ≤ n
  | 0 => Nat.le_refl 0
  | n + 1 => by have := ct_le p n; unfold ct; split <;> omega
theorem ct_iff {p q : Nat → Prop} [DecidablePred p] [DecidablePred q] : ∀ {n : Nat}, (∀ k, k < n → (p k ↔ q k)) → ct p n = ct q n
  | 0, _ => rfl
  | n + 1, h => by
    unfold ct
    rw [ct_iff (fun k hk => h k (Nat.lt_succ_of_lt hk))]
    by_cases hp : p n
    · rw [if_pos hp, if_pos ((h n (Nat.lt_succ_self n)).mp hp)]
    · rw [if_neg hp, if_neg (fun g => hp ((h n (Nat.lt_succ_self n)).mpr g))]
/-- the first from i below i + d, -9 if none -/
def fst9 (p : Nat → Prop) [DecidablePred p] : Nat → Nat → Int32
  | _, 0 => -9
  | i, d + 1 => if p i then nI i else fst9 p (i + 1) d
theorem fst9_iff {p q : Nat → Prop} [DecidablePred p] [DecidablePred q] : ∀ {d i : Nat}, (∀ k, i ≤ k → k < i + d → (p k ↔ q k)) → fst9 p i d = fst9 q i d
  | 0, _, _ => rfl
  | d + 1, i, h => by
    unfold fst9
    rw [fst9_iff (fun k h1 h2 => h k (by omega) (by omega))]
    by_cases hp : p i
    · rw [if_pos hp, if_pos ((h i (by omega) (by omega)).mp hp)]
    · rw [if_neg hp, if_neg (fun g => hp ((h i (by omega) (by omega)).mpr g))]
theorem zk_zpi (h : zH) (a k : Nat) (x : Int32) : zk (zpi h a k x) = zk h := rfl
theorem zn_zpi (h : zH) (a k : Nat) (x : Int32) : zn (zpi h a k x) = zn h := rfl
theorem zr_zpi (h : zH) (a k : Nat) (x : Int32) : zr (zpi h a k x) = zr h := rfl
theorem zsz_zpi (h : zH) (a k : Nat) (x : Int32) : zsz (zpi h a k x) = zsz h := rfl
theorem zk_zpa (h : zH) (a : Nat) (f : Nat → Int32) : zk (zpa h a f) = zk h := rfl
theorem zn_zpa (h : zH) (a : Nat) (f : Nat → Int32) : zn (zpa h a f) = zn h := rfl
theorem zr_zpa (h : zH) (a : Nat) (f : Nat → Int32) : zr (zpa h a f) = zr h := rfl
theorem zsz_zpa (h : zH) (a : Nat) (f : Nat → Int32) : zsz (zpa h a f) = zsz h := rfl
theorem zk_zpr (h : zH) (a k x : Nat) : zk (zpr h a k x) = zk h := rfl
theorem zn_zpr (h : zH) (a k x : Nat) : zn (zpr h a k x) = zn h := rfl
theorem zi_zpr (h : zH) (a k x : Nat) : zi (zpr h a k x) = zi h := rfl
theorem zsz_zpr (h : zH) (a k x : Nat) : zsz (zpr h a k x) = zsz h := rfl
theorem zi_zpa (h : zH) (a : Nat) (f : Nat → Int32) : zi (zpa h a f) a = f := if_pos rfl
theorem zi_zpaN (h : zH) {a a' : Nat} (f : Nat → Int32) (ha : a' ≠ a) : zi (zpa h a f) a' = zi h a' := if_neg ha
theorem zpi_pa (h : zH) (a k : Nat) (x : Int32) : zpi h a k x = zpa h a (zup (zi h a) k x) := by
  have : zup2 (zi h) a k x = zup (zi h) a (zup (zi h a) k x) := by
    funext b j
    unfold zup2 zup
    by_cases hb : b = a
    · subst hb; by_cases hj : j = k <;> simp [hj]
    · simp [hb]
  unfold zpi zpa
  rw [this]
theorem zpa_zpa (h : zH) (a : Nat) (f g : Nat → Int32) : zpa (zpa h a f) a g = zpa h a g := by
  have : zup (zup (zi h) a f) a g = zup (zi h) a g := zup_zup _ _ _ _
  unfold zpa
  show (_, _, _, zup (zup (zi h) a f) a g, _) = _
  rw [this]; rfl
theorem zpa_self (h : zH) (a : Nat) : zpa h a (zi h a) = h := by
  unfold zpa; rw [zup_self]; rfl
theorem zi_zpi (h : zH) (a k : Nat) (x : Int32) (b j : Nat) : zi (zpi h a k x) b j = if b = a ∧ j = k then x else zi h b j := rfl
theorem zi_zpiE (h : zH) {a k : Nat} {x : Int32} {b j : Nat} (h1 : b = a) (h2 : j = k) : zi (zpi h a k x) b j = x := if_pos ⟨h1, h2⟩
theorem zi_zpiN (h : zH) {a k : Nat} {x : Int32} {b j : Nat} (h1 : b ≠ a ∨ j ≠ k) : zi (zpi h a k x) b j = zi h b j := if_neg (by rintro ⟨h2, h3⟩; rcases h1 with h1 | h1 <;> exact h1 (by assumption))
theorem zr_zpr (h : zH) (a k x b j : Nat) : zr (zpr h a k x) b j = if b = a ∧ j = k then x else zr h b j := rfl
theorem zr_zprE (h : zH) {a k x b j : Nat} (h1 : b = a) (h2 : j = k) : zr (zpr h a k x) b j = x := if_pos ⟨h1, h2⟩
theorem zr_zprN (h : zH) {a k x b j : Nat} (h1 : b ≠ a ∨ j ≠ k) : zr (zpr h a k x) b j = zr h b j := if_neg (by rintro ⟨h2, h3⟩; rcases h1 with h1 | h1 <;> exact h1 (by assumption))
theorem ix_nI {n : Nat} (h : n < 2147483648) : (nI n).toNatClampNeg = n := nI_clamp h
theorem zc9 : zcst (-9) = -9 := by decide
theorem zc1 : zcst (-1) = -1 := by decide
theorem zc2 : zcst (-2) = -2 := by decide
theorem zc3 : zcst (-3) = -3 := by decide
theorem zc1000 : zcst (-1000) = -1000 := by decide
theorem nI_m9 {n : Nat} (h : n < 2147483648) : (nI n = -9) = False := eq_false (fun e => by
  have := congrArg Int32.toInt e
  rw [nIn h, i32_m9] at this
  omega)
theorem nI_m9' {n : Nat} (h : n < 2147483648) : (-9 = nI n) = False := by
  rw [eq_comm (a := (-9 : Int32)), nI_m9 h]
theorem nI_zero : nI 0 = 0 := rfl
theorem nI_nneg {n : Nat} (h : n < 2147483648) : (nI n < 0) = False := eq_false (fun e => by
  rw [i32lt, nIn h, i32_0] at e; omega)
theorem nI_eq0 {n : Nat} (h : n < 2147483648) : (nI n = 0) = (n = 0) := by
  rw [← nI_zero]; exact propext (nI_eq h (by decide))
theorem cpy_succ {α : Type} (f g : Nat → α) (sp dp n : Nat) : va_cpy f g sp dp (n + 1) = zup (va_cpy f g sp dp n) (dp + n) (f (sp + n)) := by
  funext j
  by_cases h1 : j = dp + n
  · rw [zup_eq h1, pk_cpy_in (by omega) (by omega)]; congr 1; omega
  · rw [zup_ne h1]
    by_cases h2 : dp ≤ j ∧ j < dp + n
    · rw [pk_cpy_in h2.1 (by omega), pk_cpy_in h2.1 h2.2]
    · rw [pk_cpy_out (by omega), pk_cpy_out (by omega)]
theorem cpy_0 {α : Type} (f g : Nat → α) (sp dp : Nat) : va_cpy f g sp dp 0 = g := funext fun j => pk_cpy_out (by omega)
theorem nI00 : (nI 0 = 0) = True := eq_true rfl
theorem nI10 : (nI 1 = 0) = False := eq_false (by decide)
theorem ltle {a b : Int32} : (a < b) = ¬ b ≤ a := propext ⟨fun h g => Int32.not_lt.mpr g h, fun h => Int32.not_le.mp h⟩
theorem nI11 : (nI 1 = 1) = True := eq_true rfl
theorem nI01 : (nI 0 = 1) = False := eq_false (by decide)

