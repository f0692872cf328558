def zrs (p : Nat) (n : Int32) : Nat → Nat → Int32
  | 0, _ => -1
  | d + 1, r => if zmd (nI r * nI r) (nI p) = n then nI r else zrs p n d (r + 1)
