def zp3 (k : Nat) : Int32 := if k = 3 then 0 else zpk10 (k + 1)
