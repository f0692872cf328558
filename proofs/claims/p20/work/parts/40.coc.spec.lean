def zqC (σ : zMem) (o q : Nat) : Int32 := zg σ o 8 * zg σ o 8 + zg σ o 9 * zg σ o 9 - zg σ q 8 * zg σ q 8 - zg σ q 9 * zg σ q 9 - zg σ o 10 + zg σ q 10
/-- a parent that isn't there, or doesn't lack -/
def zpo (σ : zMem) (o k : Nat) : Prop := zg σ o (2 + k) = -1 ∨ ∃ q, q < 40 ∧ zg σ o (2 + k) = nI q ∧ ¬ zg σ q 7 = 1
/-- parents are none or numbers of objects -/
def zpk (σ : zMem) (o : Nat) : Prop := ∀ k, k < 3 → zg σ o (2 + k) = -1 ∨ ∃ q, q < 40 ∧ zg σ o (2 + k) = nI q
theorem nI_inj' {a b : Nat} (ha : a < 2147483648) (hb : b < 2147483648) (h : nI a = nI b) : a = b := by
  have h' : (nI a).toInt = (nI b).toInt := by rw [h]
  rw [nI_toInt ha, nI_toInt hb] at h'
  omega
