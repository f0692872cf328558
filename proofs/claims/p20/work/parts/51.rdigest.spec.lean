def zfl (f : Nat → Int32) (d : Int64) : Nat → Int64
  | 0 => d
  | k + 1 => zdg (zfl f d k) (f k)
def zfR (σ : zMem) (o w : Nat) : Int32 := if w < 5 then zg σ o w else zg σ o 7
def zdR (σ : zMem) (o : Nat) (d : Int64) : Int64 := if zg σ o 7 = 1 then zfl (zfR σ o) d 6 else zfl (fun k => zg σ o (8 + k)) (zfl (zfR σ o) d 6) 3
