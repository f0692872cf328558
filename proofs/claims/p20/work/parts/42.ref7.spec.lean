/-- thrown put back -/
def zt0 (σ : zMem) : zMem := zup σ 0 0 0 0
def ztf (σ : zMem) (n : Int32) : zMem := zup (zt0 σ) 0 0 0 n
theorem zt0_g {σ : zMem} {j w : Nat} : zg (zt0 σ) j w = zg σ j w := by simp [zg, zt0, zup]
