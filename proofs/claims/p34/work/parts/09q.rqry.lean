def qLan (f : Nat → Int32) (nr : Nat) (i x : Int32) : Int32 := if inN i nr ∧ inN x 200 then fst9 (fun d => cL f (ixx i) d) (ixx x) (200 - ixx x) else -1
def qLns (f : Nat → Int32) (nr : Nat) (i x y : Int32) : Int32 := if inN i nr ∧ inN x 200 ∧ (x ≤ y ∧ y ≤ nI 199) then nI (ct (fun k => cL f (ixx i) (ixx x + k)) (ixx y + 1 - ixx x)) else -1
def anP (f : Nat → Int32) (x : Int32) (d i : Nat) : Prop := (x >>> (nI i &&& 31)) &&& nI 1 = nI 1 ∧ cL f i d
def anL (f : Nat → Int32) (x : Int32) (d n : Nat) : Nat := ct (fun i => (x >>> (nI i &&& 31)) &&& nI 1 = nI 1 ∧ cL f i d) n
def cO (f : Nat → Int32) (x : Int32) (nr : Nat) : Nat → Nat → Int32 → Int32 → Int32
  | 0, _, _, most => most
  | d + 1, day, row, most => cO f x nr d (day + 1) (if 0 < anL f x day nr then nI 0 else row + nI 1) (if most < (if 0 < anL f x day nr then nI 0 else row + nI 1) then (if 0 < anL f x day nr then nI 0 else row + nI 1) else most)
def qCut (f : Nat → Int32) (nr : Nat) (x a b : Int32) : Int32 := if (nI 1 ≤ x ∧ x ≤ (nI 1 <<< (nI nr &&& 31)) - nI 1) ∧ inN a 200 ∧ (a ≤ b ∧ b ≤ nI 199) then cO f x nr (ixx b + 1 - ixx a) (ixx a) (nI 0) (nI 0) else -1
