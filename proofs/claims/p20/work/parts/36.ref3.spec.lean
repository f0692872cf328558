def zonL (σ : zMem) (l : Nat) (x y : Int32) : Prop := zM σ (zg σ l 8 * x + zg σ l 9 * y + zg σ l 10) = 0
/-- the outcome of a line that is laid -/
def zll (σ : zMem) (τ : zTmp) (p : Nat) (a b c : Int32) : Option zOut := if zfs p a b = 0 then some (.inl (some (zI 0)), (σ, τ)) else some (.inl (some (zI 1)), (zlnl σ p a b c, τ))
def zbA (σ : zMem) (o q : Nat) : Int32 := 2 * (zg σ q 8 - zg σ o 8)
def zbB (σ : zMem) (o q : Nat) : Int32 := 2 * (zg σ q 9 - zg σ o 9)
def zbC (σ : zMem) (o q : Nat) : Int32 := zg σ o 8 * zg σ o 8 + zg σ o 9 * zg σ o 9 - zg σ q 8 * zg σ q 8 - zg σ q 9 * zg σ q 9
def zsq2 (σ : zMem) (a b : Nat) : Int32 := zM σ ((zg σ a 8 - zg σ b 8) * (zg σ a 8 - zg σ b 8) + (zg σ a 9 - zg σ b 9) * (zg σ a 9 - zg σ b 9))
