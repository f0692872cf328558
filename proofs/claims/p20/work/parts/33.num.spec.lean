/-! ===== ints and Int32 ===== -/
abbrev zN (a : Int) : Int32 := Int32.ofInt a
theorem zN_toInt {a : Int} (h : -2147483648 ≤ a ∧ a < 2147483648) : (zN a).toInt = a := Int32.toInt_ofInt_of_le (by omega) (by omega)
theorem zN_of (x : Int32) : x = zN x.toInt := (Int32.ofInt_toInt x).symm
theorem zle {x y : Int32} : x ≤ y ↔ x.toInt ≤ y.toInt := Int32.le_iff_toInt_le
theorem zlt {x y : Int32} : x < y ↔ x.toInt < y.toInt := Int32.lt_iff_toInt_lt
theorem zeq {x y : Int32} : x = y ↔ x.toInt = y.toInt := Int32.toInt_inj.symm
theorem zrange (x : Int32) : -2147483648 ≤ x.toInt ∧ x.toInt < 2147483648 := ⟨by have := Int32.le_toInt x; omega, by have := Int32.toInt_lt x; omega⟩
theorem zbmod {a : Int} (h : -2147483648 ≤ a ∧ a < 2147483648) : a.bmod (2 ^ 32) = a := by
  rw [Int.bmod_eq_of_le (by omega) (by omega)]
theorem zemod_of {x p q r : Int} (h : x = p * q + r) (h0 : 0 ≤ r) (h1 : r < p) : x % p = r := by
  rw [h, Int.add_comm, Int.add_mul_emod_self_left]
  exact Int.emod_eq_of_lt h0 h1
/-- the sign of an exclusive or -/
theorem zxor_sign {x p : Int32} (hp : 0 < p.toInt) : 0 ≤ x ^^^ p ↔ 0 ≤ x.toInt := by
  have hpm : p.toBitVec.msb = false := by
    rw [BitVec.msb_eq_toInt]
    simp only [decide_eq_false_iff_not, Int.not_lt]
    show 0 ≤ p.toInt
    omega
  have h1 : (x ^^^ p).toBitVec.msb = x.toBitVec.msb := by
    rw [Int32.toBitVec_xor, BitVec.msb_xor, hpm, Bool.xor_false]
  rw [zle]
  have h2 : (0 ≤ (x ^^^ p).toInt) ↔ (x ^^^ p).toBitVec.msb = false := by
    rw [BitVec.msb_eq_toInt]
    simp only [decide_eq_false_iff_not, Int.not_lt]
    rfl
  have h3 : (0 ≤ x.toInt) ↔ x.toBitVec.msb = false := by
    rw [BitVec.msb_eq_toInt]
    simp only [decide_eq_false_iff_not, Int.not_lt]
    rfl
  rw [show (0 : Int32).toInt = 0 from rfl, h2, h3, h1]
theorem zfm_int {x p : Int32} (hp : 0 < p.toInt) : (zfm x p).toInt = x.toInt % p.toInt := by
  have hx := zrange x
  have hpr := zrange p
  have hd : (x / p).toInt = x.toInt.tdiv p.toInt := Int32.toInt_div_of_ne_right x p (by intro h; rw [h] at hp; exact absurd hp (by decide))
  have hq : p.toInt * x.toInt.tdiv p.toInt + x.toInt.tmod p.toInt = x.toInt := Int.mul_tdiv_add_tmod x.toInt p.toInt
  have hr1 : x.toInt.tmod p.toInt < p.toInt := Int.tmod_lt_of_pos _ hp
  have hr2 : -p.toInt < x.toInt.tmod p.toInt := by
    have := Int.tmod_lt_of_pos (-x.toInt) hp
    rw [Int.neg_tmod] at this
    omega
  have hsg : (0 ≤ x.toInt → 0 ≤ x.toInt.tmod p.toInt) ∧ (x.toInt < 0 → x.toInt.tmod p.toInt ≤ 0) := by
    constructor
    · intro h; exact Int.tmod_nonneg _ h
    · intro h
      have := Int.tmod_nonneg p.toInt (show 0 ≤ -x.toInt by omega)
      rw [Int.neg_tmod] at this
      omega
  have hcomm : x.toInt.tdiv p.toInt * p.toInt = p.toInt * x.toInt.tdiv p.toInt := Int.mul_comm _ _
  have hr : (x - x / p * p).toInt = x.toInt.tmod p.toInt := by
    rw [Int32.toInt_sub, Int32.toInt_mul, hd, hcomm]
    generalize x.toInt.tdiv p.toInt = q at hq hcomm
    generalize x.toInt.tmod p.toInt = r at *
    rw [zbmod (a := p.toInt * q) (by omega), zbmod (by omega)]
    omega
  unfold zfm
  by_cases h0 : 0 ≤ x.toInt
  · rw [if_pos ((zxor_sign hp).mpr h0), hr]
    exact (zemod_of hq.symm (hsg.1 h0) hr1).symm
  · rw [if_neg (fun h => h0 ((zxor_sign hp).mp h))]
    by_cases h1 : x - x / p * p = 0
    · rw [if_pos h1, hr]
      have h2 : x.toInt.tmod p.toInt = 0 := by rw [← hr, h1]; rfl
      rw [h2]
      rw [h2] at hq
      exact (zemod_of hq.symm (Int.le_refl 0) hp).symm
    · rw [if_neg h1]
      have h2 : x.toInt.tmod p.toInt ≠ 0 := by
        intro h
        apply h1
        rw [zeq, hr, h]
        rfl
      have h3 := hsg.2 (by omega)
      have h4 : (x - x / p * p + p).toInt = x.toInt.tmod p.toInt + p.toInt := by
        rw [Int32.toInt_add, hr, zbmod (by omega)]
      rw [h4]
      exact (zemod_of (q := x.toInt.tdiv p.toInt - 1) (by rw [Int.mul_sub]; omega) (by omega) (by omega)).symm
theorem zrest_int {p n : Int32} (hp : 0 < p.toInt) : (zrest p n).toInt = n.toInt % p.toInt := by
  unfold zrest
  rw [if_neg (by intro h; rw [h] at hp; exact absurd hp (by decide)), zfm_int hp]

