def zsaid (s w a b c x y : Int32) : Nat → Int32 := upd (upd (upd (upd (upd (upd (upd (upd (upd (upd (upd (fun _ => 0) 0 s) 1 w) 2 a) 3 b) 4 c) 5 x) 6 y) 7 0) 8 0) 9 0) 10 0
def zaddS (σ : zMem) (m : Nat) (s w a b c x y : Int32) : zMem := zup (zrow σ 1 0 (va_cpy (zsaid s w a b c x y) (σ 1 0) 0 (11 * m) 11)) 0 0 2 (nI (m + 1))
