/-! ===== numbers by the remainder of p ===== -/
def yR (p : Nat) (e : Int) : Nat := (e % (p : Int)).toNat
theorem yR_mn {p : Nat} {v : Int32} : zmn p v = yR p v.toInt := rfl
theorem yR_int {p : Nat} {e : Int} (hp : 0 < p) : ((yR p e : Nat) : Int) = e % (p : Int) := by
  unfold yR
  have := Int.emod_nonneg e (show (p : Int) ≠ 0 by omega)
  omega
theorem yR_lt {p : Nat} {e : Int} (hp : 0 < p) : yR p e < p := by
  have h := yR_int (e := e) hp
  have := Int.emod_lt_of_pos e (show (0 : Int) < p by omega)
  omega
theorem yR_ex {p : Nat} (e : Int) (hp : 0 < p) : ∃ k : Int, ((yR p e : Nat) : Int) = e + p * k := by
  refine ⟨-(e / (p : Int)), ?_⟩
  rw [yR_int hp]
  have := Int.mul_ediv_add_emod e (p : Int)
  rw [Int.mul_neg]
  omega
theorem yR_of {p : Nat} {e f : Int} (k : Int) (h : e = f + p * k) : yR p e = yR p f := by
  unfold yR
  rw [h, Int.add_mul_emod_self_left]
/-- the same by the remainder -/
def yE (p : Nat) (a b : Int) : Prop := ∃ k : Int, a = b + p * k
theorem yE_iff {p : Nat} {a b : Int} (hp : 0 < p) : yR p a = yR p b ↔ yE p a b := by
  constructor
  · intro h
    obtain ⟨k1, h1⟩ := yR_ex a hp
    obtain ⟨k2, h2⟩ := yR_ex b hp
    refine ⟨k2 - k1, ?_⟩
    rw [Int.mul_sub]
    rw [h] at h1
    omega
  · rintro ⟨k, h⟩
    exact yR_of k h
theorem yE_refl {p : Nat} {a : Int} : yE p a a := ⟨0, by simp⟩
theorem yE_symm {p : Nat} {a b : Int} (h : yE p a b) : yE p b a := by
  obtain ⟨k, h⟩ := h
  exact ⟨-k, by rw [Int.mul_neg]; omega⟩
theorem yE_trans {p : Nat} {a b c : Int} (h : yE p a b) (h' : yE p b c) : yE p a c := by
  obtain ⟨k, h⟩ := h
  obtain ⟨l, h'⟩ := h'
  exact ⟨l + k, by rw [Int.mul_add]; omega⟩
theorem yE_add {p : Nat} {a b c d : Int} (h : yE p a b) (h' : yE p c d) : yE p (a + c) (b + d) := by
  obtain ⟨k, h⟩ := h
  obtain ⟨l, h'⟩ := h'
  exact ⟨k + l, by rw [Int.mul_add]; omega⟩
theorem yE_sub {p : Nat} {a b c d : Int} (h : yE p a b) (h' : yE p c d) : yE p (a - c) (b - d) := by
  obtain ⟨k, h⟩ := h
  obtain ⟨l, h'⟩ := h'
  exact ⟨k - l, by rw [Int.mul_sub]; omega⟩
theorem yE_neg {p : Nat} {a b : Int} (h : yE p a b) : yE p (-a) (-b) := by
  obtain ⟨k, h⟩ := h
  exact ⟨-k, by rw [Int.mul_neg]; omega⟩
theorem yE_mul {p : Nat} {a b c d : Int} (h : yE p a b) (h' : yE p c d) : yE p (a * c) (b * d) := by
  obtain ⟨k, h⟩ := h
  obtain ⟨l, h'⟩ := h'
  exact ⟨b * l + k * d + p * k * l, by subst h; subst h'; grind⟩
theorem yE_R {p : Nat} {e : Int} (hp : 0 < p) : yE p (yR p e) e := yR_ex e hp
theorem yR_E {p : Nat} {a b : Int} (h : yE p a b) : yR p a = yR p b := by
  obtain ⟨k, h⟩ := h
  exact yR_of k h
theorem yR_nat {p n : Nat} (h : n < p) : yR p n = n := by
  unfold yR
  rw [Int.emod_eq_of_lt (by omega) (by omega)]
  omega
theorem yR_0 {p : Nat} {e : Int} (hp : 0 < p) : yR p e = 0 ↔ yE p e 0 := by
  have h : yR p 0 = 0 := by unfold yR; rw [Int.zero_emod]; rfl
  rw [← yE_iff hp, h]
theorem yE_nat {p a b : Nat} (ha : a < p) (hb : b < p) (h : yE p a b) : a = b := by
  have := yR_E h
  rw [yR_nat ha, yR_nat hb] at this
  exact this
theorem yE_eq {p : Nat} {a b : Int} (h : a = b) : yE p a b := by rw [h]; exact yE_refl
/-! an Int32's value and a bound -/
def yB (v : Int32) (e : Int) (B : Nat) : Prop := v.toInt = e ∧ e.natAbs ≤ B
theorem yB_n {n : Nat} (h : n < 43) : yB (nI n) n 42 := ⟨nI_toInt (by omega), by omega⟩
theorem yB_2 : yB 2 2 2 := ⟨rfl, by decide⟩
theorem yB_1 : yB 1 1 1 := ⟨rfl, by decide⟩
theorem yB_0 : yB 0 0 0 := ⟨rfl, by decide⟩
theorem yB_add {v w : Int32} {e f : Int} {B C : Nat} (h : yB v e B) (h' : yB w f C) (hb : B + C ≤ 2147483647) : yB (v + w) (e + f) (B + C) := by
  obtain ⟨h1, h2⟩ := h
  obtain ⟨h3, h4⟩ := h'
  refine ⟨?_, by omega⟩
  rw [Int32.toInt_add, h1, h3, zbmod (by omega)]
theorem yB_sub {v w : Int32} {e f : Int} {B C : Nat} (h : yB v e B) (h' : yB w f C) (hb : B + C ≤ 2147483647) : yB (v - w) (e - f) (B + C) := by
  obtain ⟨h1, h2⟩ := h
  obtain ⟨h3, h4⟩ := h'
  refine ⟨?_, by omega⟩
  rw [Int32.toInt_sub, h1, h3, zbmod (by omega)]
theorem yB_neg {v : Int32} {e : Int} {B : Nat} (h : yB v e B) (hb : B ≤ 2147483647) : yB (-v) (-e) B := by
  obtain ⟨h1, h2⟩ := h
  refine ⟨?_, by omega⟩
  rw [Int32.toInt_neg, h1, zbmod (by omega)]
theorem yB_mul {v w : Int32} {e f : Int} {B C : Nat} (h : yB v e B) (h' : yB w f C) (hb : B * C ≤ 2147483647) : yB (v * w) (e * f) (B * C) := by
  obtain ⟨h1, h2⟩ := h
  obtain ⟨h3, h4⟩ := h'
  have h5 : (e * f).natAbs ≤ B * C := by
    rw [Int.natAbs_mul]
    exact Nat.mul_le_mul h2 h4
  refine ⟨?_, h5⟩
  rw [Int32.toInt_mul, h1, h3, zbmod (by omega)]
theorem yB_mn {p : Nat} {v : Int32} {e : Int} {B : Nat} (h : yB v e B) : zmn p v = yR p e := by rw [yR_mn, h.1]
theorem yB_rest {p : Nat} {v : Int32} {e : Int} {B : Nat} (hp : zpr p) (h : yB v e B) : zrest (nI p) v = nI (yR p e) := by rw [(zrest_nat hp).1, yB_mn h]
/-! what the six primes have -/
def yprC (p : Nat) : Bool := (List.range p).all fun a => (List.range p).all fun b => (a * a + b * b) % p != 0 || (a == 0 && b == 0)
theorem yprC_pr {p : Nat} (h : zpr p) : yprC p = true := by
  have c7 : yprC 7 = true := by decide +kernel
  have c11 : yprC 11 = true := by decide +kernel
  have c19 : yprC 19 = true := by decide +kernel
  have c23 : yprC 23 = true := by decide +kernel
  have c31 : yprC 31 = true := by decide +kernel
  have c43 : yprC 43 = true := by decide +kernel
  rcases h with h | h | h | h | h | h <;> subst h <;> assumption
theorem zpr_pos {p : Nat} (h : zpr p) : 0 < p := by have := zpr_lt h; omega
/-- two squares add up to 0 only if both are 0 -/
theorem y_sq2 {p : Nat} {a b : Int} (hp : zpr p) (h : yE p (a * a + b * b) 0) : yE p a 0 ∧ yE p b 0 := by
  have h0 := zpr_pos hp
  have e := yprC_pr hp
  unfold yprC at e
  rw [List.all_eq_true] at e
  have e := e (yR p a) (List.mem_range.mpr (yR_lt h0))
  rw [List.all_eq_true] at e
  have e := e (yR p b) (List.mem_range.mpr (yR_lt h0))
  have g : yE p ((yR p a : Nat) * (yR p a : Nat) + (yR p b : Nat) * (yR p b : Nat) : Int) 0 := yE_trans (yE_add (yE_mul (yE_R h0) (yE_R h0)) (yE_mul (yE_R h0) (yE_R h0))) h
  have g2 : (yR p a * yR p a + yR p b * yR p b) % p = 0 := by
    have g3 := (yR_0 h0).mpr g
    unfold yR at g3
    have g4 : (((yR p a * yR p a + yR p b * yR p b) % p : Nat) : Int) = ((yR p a : Nat) * (yR p a : Nat) + (yR p b : Nat) * (yR p b : Nat) : Int) % (p : Int) := by
      rw [Int.natCast_emod, Int.natCast_add, Int.natCast_mul, Int.natCast_mul]
    have g5 : 0 ≤ ((yR p a : Nat) * (yR p a : Nat) + (yR p b : Nat) * (yR p b : Nat) : Int) % (p : Int) := Int.emod_nonneg _ (by omega)
    have g6 : (((yR p a : Nat) * (yR p a : Nat) + (yR p b : Nat) * (yR p b : Nat) : Int) % (p : Int)).toNat = 0 := g3
    omega
  simp only [g2, Bool.or_eq_true, Bool.and_eq_true, beq_iff_eq, bne_self_eq_false, Bool.false_eq_true, false_or] at e
  exact ⟨(yR_0 h0).mp e.1, (yR_0 h0).mp e.2⟩
/-- 1 / a -/
def yV (p : Nat) (e : Int) : Int := (zopp p (yR p e) : Nat)
theorem y_inv {p : Nat} {e : Int} (hp : zpr p) (h : ¬ yE p e 0) : yE p (e * yV p e) 1 := by
  have h0 := zpr_pos hp
  have h1 : 0 < yR p e := by
    rcases Nat.eq_zero_or_pos (yR p e) with g | g
    · exact absurd ((yR_0 h0).mp g) h
    · exact g
  obtain ⟨o1, o2, _, o4, _⟩ := zopp_ok hp h1 (yR_lt h0)
  have g1 : yE p ((zopp p (yR p e) : Nat) * (yR p e : Nat) : Int) 1 := by
    refine ⟨((zopp p (yR p e) * yR p e / p : Nat) : Int), ?_⟩
    have := Nat.div_add_mod (zopp p (yR p e) * yR p e) p
    rw [o4] at this
    have t : (((p * (zopp p (yR p e) * yR p e / p) + 1 : Nat)) : Int) = ((zopp p (yR p e) * yR p e : Nat) : Int) := by rw [this]
    rw [Int.natCast_add, Int.natCast_mul, Int.natCast_mul] at t
    have t1 : ((1 : Nat) : Int) = 1 := rfl
    omega
  refine yE_trans ?_ g1
  rw [Int.mul_comm]
  exact yE_mul yE_refl (yE_symm (yE_R h0))
theorem yV_E {p : Nat} {a b : Int} (h : yE p a b) : yV p a = yV p b := by unfold yV; rw [yR_E h]
theorem yV_nat {p n : Nat} (h : n < p) : yV p n = (zopp p n : Nat) := by unfold yV; rw [yR_nat h]
/-- of a product that is 0 one of the two is -/
theorem y_prime {p : Nat} {a b : Int} (hp : zpr p) (h : yE p (a * b) 0) : yE p a 0 ∨ yE p b 0 := by
  by_cases ha : yE p a 0
  · exact Or.inl ha
  · refine Or.inr ?_
    obtain ⟨k, hk⟩ := y_inv hp ha
    obtain ⟨l, hl⟩ := h
    refine ⟨l * yV p a - b * k, ?_⟩
    grind
theorem y_ne_mul {p : Nat} {a b : Int} (hp : zpr p) (ha : ¬ yE p a 0) (hb : ¬ yE p b 0) : ¬ yE p (a * b) 0 := fun h => (y_prime hp h).elim ha hb
theorem y_1 {p : Nat} (hp : zpr p) : ¬ yE p 1 0 := by
  intro h
  have := yE_nat (a := 1) (b := 0) (p := p) (by have := zpr_lt hp; omega) (by have := zpr_lt hp; omega) h
  omega
theorem y_2 {p : Nat} (hp : zpr p) : ¬ yE p 2 0 := by
  intro h
  have := yE_nat (a := 2) (b := 0) (p := p) (by have := zpr_lt hp; omega) (by have := zpr_lt hp; omega) h
  omega
/-- a divisor is one of both sides -/
theorem y_cancel {p : Nat} {a b c : Int} (hp : zpr p) (hc : ¬ yE p c 0) (h : yE p (c * a) (c * b)) : yE p a b := by
  obtain ⟨k, hk⟩ := y_inv hp hc
  obtain ⟨l, hl⟩ := h
  exact ⟨l * yV p c - a * k + b * k, by grind⟩
theorem yV_ne {p : Nat} {e : Int} (hp : zpr p) (h : ¬ yE p e 0) : ¬ yE p (yV p e) 0 := by
  intro g
  have h1 := y_inv hp h
  have h2 : yE p (e * yV p e) (e * 0) := yE_mul yE_refl g
  rw [Int.mul_zero] at h2
  exact y_1 hp (yE_trans (yE_symm h1) h2)
/-- what is the same product with the same factor -/
theorem y_uniq {p : Nat} {a b x y : Int} (hp : zpr p) (ha : ¬ yE p a 0) (h1 : yE p (a * x) b) (h2 : yE p (a * y) b) : yE p x y := y_cancel hp ha (yE_trans h1 (yE_symm h2))
/-- roots -/
def yrt (p n : Nat) : Option Nat := (List.range p).find? (fun r => r * r % p == n)
theorem yrt_some {p n r : Nat} (hp : zpr p) (h : yrt p n = some r) : r < p ∧ yE p ((r : Int) * r) n := by
  unfold yrt at h
  have h1 := List.find?_some h
  have h2 := List.mem_of_find?_eq_some h
  rw [List.mem_range] at h2
  refine ⟨h2, ?_⟩
  rw [beq_iff_eq] at h1
  refine ⟨((r * r / p : Nat) : Int), ?_⟩
  have := Nat.div_add_mod (r * r) p
  rw [h1] at this
  have t : (((p * (r * r / p) + n : Nat)) : Int) = ((r * r : Nat) : Int) := by rw [this]
  rw [Int.natCast_add, Int.natCast_mul, Int.natCast_mul] at t
  omega
theorem yrt_none {p n : Nat} {k : Int} (hp : zpr p) (hn : n < p) (h : yrt p n = none) : ¬ yE p (k * k) n := by
  have h0 := zpr_pos hp
  intro g
  unfold yrt at h
  rw [List.find?_eq_none] at h
  have := h (yR p k) (List.mem_range.mpr (yR_lt h0))
  apply this
  rw [beq_iff_eq]
  have g1 : yE p ((yR p k * yR p k : Nat) : Int) n := by
    rw [Int.natCast_mul]
    exact yE_trans (yE_mul (yE_R h0) (yE_R h0)) g
  have g2 := yR_E g1
  rw [yR_nat hn] at g2
  rw [← g2]
  unfold yR
  rw [← Int.natCast_emod]
  rfl

