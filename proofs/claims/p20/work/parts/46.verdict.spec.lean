def zcf (σ : zMem) (ic j : Nat) : Int32 := σ 2 0 (5 * ic + j)
def zdgt (n pl : Int32) : Int32 := n / pl - n / pl / 10 * 10
/-- how many objects a claim has -/
def zna (w : Nat) : Nat := if w = 5 then 4 else if w = 2 ∨ w = 7 then 3 else 2
def zpk10 (k : Nat) : Int32 := if k = 0 then 1000 else if k = 1 then 100 else if k = 2 then 10 else 1
