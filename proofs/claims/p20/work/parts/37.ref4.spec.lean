def zcX (p : Nat) (b c : Int32) (t : Nat) : Int32 := if b = 0 then zrest (nI p) (-c) else nI t
def zcY (p : Nat) (a b c w : Int32) (t : Nat) : Int32 := if b = 0 then nI t else zmd (zrest (nI p) (-(a * nI t + c)) * w) (nI p)
def zhv (p : Nat) (a b c u v w : Int32) (t : Nat) : Int32 := zrest (nI p) ((zcX p b c t - u) * (zcX p b c t - u) + (zcY p a b c w t - v) * (zcY p a b c w t - v))
def zcm1 (p : Nat) (a b c u v s w : Int32) (lim : Nat) : Nat → Nat → Nat → zMem → Nat × zMem
  | 0, _, many, σ => (many, σ)
  | d + 1, t, many, σ => if lim ≤ many then (many, σ) else if zhv p a b c u v w t = s then zcm1 p a b c u v s w lim d (t + 1) (many + 1) (zla σ (zcX p b c t) (zcY p a b c w t) 0) else zcm1 p a b c u v s w lim d (t + 1) many σ
