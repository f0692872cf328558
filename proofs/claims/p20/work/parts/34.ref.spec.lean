/-- an object's number in the reference's table -/
def zg (σ : zMem) (j w : Nat) : Int32 := σ 1 0 (11 * j + w)
def zM (σ : zMem) (n : Int32) : Int32 := zrest (σ 0 0 1) n
def zin (v l h : Int32) : Prop := l ≤ v ∧ v ≤ h
def zob (σ : zMem) (o : Int32) : Prop := zin o 0 (σ 0 0 2 - 1)
def zcm (σ : zMem) (o : Int32) : Prop := zin o 0 (σ 0 0 4 - 1)
def zla (σ : zMem) (a b c : Int32) : zMem := zup (zup (zup σ 3 0 0 (zM σ a)) 3 0 1 (zM σ b)) 3 0 2 (zM σ c)
