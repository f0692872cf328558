def zne (w : Nat) : Int32 := (zTab 2).getD w 0
