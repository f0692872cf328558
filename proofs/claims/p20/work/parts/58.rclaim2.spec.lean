def zp4 (k : Nat) : Int32 := if k = 4 then 0 else zpk10 k
def zsaidC (w a b c d : Int32) : Nat → Int32 := upd (upd (upd (upd (upd (fun _ => 0) 0 w) 1 a) 2 b) 3 c) 4 d
def zrclS (σ : zMem) (m : Nat) (w a b c d : Int32) : zMem := zup (zrow (zt0 σ) 2 0 (va_cpy (zsaidC w a b c d) (σ 2 0) 0 (5 * m) 5)) 0 0 4 (nI (m + 1))
