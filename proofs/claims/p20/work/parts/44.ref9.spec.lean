def zmtS (σ : zMem) (m : Nat) (x y : Int32) : zMem := zup (zup (zup σ 4 0 m x) 5 0 m y) 0 0 7 (nI (m + 1))
