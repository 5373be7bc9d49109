def qRock (f : Nat → Int32) (nr nk n : Nat) (i x : Int32) : Int32 := if inN i nr ∧ inN x 7 then (if x.toInt = 3 then nI (kO f i nk) else if x.toInt = 4 then nI (tO f i n) else if x.toInt = 5 then f (221 + 20 * ixx i + 3) else if x.toInt = 6 then fO f i 0 nk else f (221 + 20 * ixx i + ixx x)) else -1
def qSto (f : Nat → Int32) (nr nk : Nat) (i s x : Int32) : Int32 := if (inN i nr ∧ inN s 3) ∧ inN x 6 then (if x = nI 5 then nd (kO f i nk) (ixx s) else f (221 + 20 * ixx i + 5 + 5 * ixx s + ixx x)) else -1
def qKee (f : Nat → Int32) (nk : Nat) (k x : Int32) : Int32 := if inN k nk ∧ inN x 7 then f (281 + 7 * ixx k + ixx x) else -1
def qTur (f : Nat → Int32) (n : Nat) (k x : Int32) : Int32 := if inN k n ∧ inN x 7 then f (337 + 8 * ixx k + ixx x) else -1
def qSea (f : Nat → Int32) (d x : Int32) : Int32 := if inN d 200 ∧ inN x 2 then (if x = 0 then f (7 + ixx d % 14) else f (21 + ixx d)) else -1
def qLas (f : Nat → Int32) (nr nk : Nat) (i s : Int32) : Int32 := if inN i nr ∧ inN s 3 then (if nd (kO f i nk) (ixx s) = 0 then -9 else (f (221 + 20 * ixx i + 5 + 5 * ixx s + 0) - f (221 + 20 * ixx i + 5 + 5 * ixx s + 1)) / nd (kO f i nk) (ixx s)) else -1
