def zpr (p : Nat) : Prop := p = 7 ∨ p = 11 ∨ p = 19 ∨ p = 23 ∨ p = 31 ∨ p = 43
theorem zpr_lt {p : Nat} (h : zpr p) : 7 ≤ p ∧ p ≤ 43 := by rcases h with h | h | h | h | h | h <;> subst h <;> decide
def zmd (x y : Int32) : Int32 := x - x / y * y
def zopp (p n : Nat) : Nat := ((List.range p).find? (fun k => k * n % p == 1)).getD 0
def zoppC (p : Nat) : Bool := (List.range p).all fun n => n == 0 || (Nat.ble 1 (zopp p n) && Nat.blt (zopp p n) p && zmd (nI (zopp p n) * nI n) (nI p) == 1 && zopp p n * n % p == 1 && (List.range (zopp p n)).all fun k => k == 0 || zmd (nI k * nI n) (nI p) != 1)
theorem zoppC_7 : zoppC 7 = true := by decide +kernel
theorem zoppC_11 : zoppC 11 = true := by decide +kernel
theorem zoppC_19 : zoppC 19 = true := by decide +kernel
theorem zoppC_23 : zoppC 23 = true := by decide +kernel
theorem zoppC_31 : zoppC 31 = true := by decide +kernel
theorem zoppC_43 : zoppC 43 = true := by decide +kernel
theorem zoppC_pr {p : Nat} (h : zpr p) : zoppC p = true := by
  rcases h with h | h | h | h | h | h <;> subst h
  · exact zoppC_7
  · exact zoppC_11
  · exact zoppC_19
  · exact zoppC_23
  · exact zoppC_31
  · exact zoppC_43
theorem zopp_ok {p n : Nat} (h : zpr p) (h0 : 0 < n) (hn : n < p) : 1 ≤ zopp p n ∧ zopp p n < p ∧ zmd (nI (zopp p n) * nI n) (nI p) = 1 ∧ zopp p n * n % p = 1 ∧ ∀ k, 1 ≤ k → k < zopp p n → ¬ zmd (nI k * nI n) (nI p) = 1 := by
  have e := zoppC_pr h
  unfold zoppC at e
  rw [List.all_eq_true] at e
  have e := e n (List.mem_range.mpr hn)
  have g0 : (n == 0) = false := by simp; omega
  rw [g0, Bool.false_or] at e
  simp only [Bool.and_eq_true, List.all_eq_true, List.mem_range, Nat.ble_eq, Nat.blt_eq, beq_iff_eq, bne_iff_ne, Bool.or_eq_true] at e
  obtain ⟨⟨⟨⟨e1, e2⟩, e3⟩, e4⟩, e5⟩ := e
  refine ⟨e1, e2, e3, e4, fun k hk1 hk2 => ?_⟩
  rcases e5 k hk2 with g | g
  · omega
  · exact g
/-- the remainder as a Nat -/
def zmn (p : Nat) (v : Int32) : Nat := (v.toInt % (p : Int)).toNat
theorem zrest_nat {p : Nat} {v : Int32} (hp : zpr p) : zrest (nI p) v = nI (zmn p v) ∧ zmn p v < p := by
  have hlt := zpr_lt hp
  have e : (nI p).toInt = (p : Int) := nI_toInt (by omega)
  have e1 := zrest_int (p := nI p) (n := v) (by rw [e]; omega)
  rw [e] at e1
  have h1 : 0 ≤ v.toInt % (p : Int) := Int.emod_nonneg _ (by omega)
  have h2 : v.toInt % (p : Int) < p := Int.emod_lt_of_pos _ (by omega)
  have h3 : zmn p v < p := by unfold zmn; omega
  refine ⟨?_, h3⟩
  rw [zeq, e1, nI_toInt (by omega)]
  unfold zmn
  omega
theorem zM_nat {p : Nat} {v : Int32} {σ : zMem} (hp : zpr p) (hs : σ 0 0 1 = nI p) : zM σ v = nI (zmn p v) := by unfold zM; rw [hs]; exact (zrest_nat hp).1
theorem nI_z0 {n : Nat} (h : n < 2147483648) : nI n = 0 ↔ n = 0 := by
  constructor
  · intro g
    have h' : (nI n).toInt = (0 : Int32).toInt := by rw [g]
    rw [nI_toInt h] at h'
    have : (0 : Int32).toInt = 0 := rfl
    omega
  · intro g; rw [g]; rfl
/-- the first of a and b that is not 0 -/
def zfs (p : Nat) (a b : Int32) : Nat := if zmn p a = 0 then zmn p b else zmn p a
def zlnl (σ : zMem) (p : Nat) (a b c : Int32) : zMem := zla σ (nI (zmn p a) * nI (zopp p (zfs p a b))) (nI (zmn p b) * nI (zopp p (zfs p a b))) (nI (zmn p c) * nI (zopp p (zfs p a b)))
