/-! ===== make ===== -/
def zwayB (w : Nat) : Bool := decide ((1 : Int32) < nI w) && decide (nI w ≤ 22) && !decide (zent 0 (3 * nI w) = -1)
def ywyB (w : Nat) : Bool := (decide (w < 9) || decide (10 ≤ w ∧ w < 14) || decide (20 ≤ w ∧ w < 23)) && decide (2 ≤ w)
theorem mk_way : ∀ w : Fin 23, zwayB w.1 = ywyB w.1 := by decide +kernel
def zneB (w : Nat) : Bool := decide ((2 : Int32) ≤ nI w) && decide (nI w ≤ 22) && decide (0 ≤ zne w)
theorem mk_ne : ∀ w : Fin 23, zneB w.1 = ywyB w.1 := by decide +kernel
theorem mk_dg : ∀ w : Fin 23, ywyB w.1 = false ∨ (zdgt (zne w.1) (zp3 0) = zent 0 (3 * nI w.1) + 1 ∧ zdgt (zne w.1) (zp3 1) = zent 0 (3 * nI w.1 + 1) + 1 ∧ zdgt (zne w.1) (zp3 2) = zent 0 (3 * nI w.1 + 2) + 1 ∧ zent 0 (3 * nI w.1) ≠ -1 ∧ zent 0 (3 * nI w.1 + 1) ≠ -1 ∧ (zent 0 (3 * nI w.1 + 2) = -1 ↔ w.1 < 21) ∧ zent 0 (3 * nI w.1) ≠ 3 ∧ zent 0 (3 * nI w.1 + 1) ≠ 3 ∧ zent 0 (3 * nI w.1 + 2) ≠ 3 ∧ (zne w.1 - zne w.1 / 10 * 10 = 0 ↔ w.1 < 21) ∧ (w.1 = 2 ∨ w.1 = 3 ∨ w.1 = 4 → zent 0 (3 * nI w.1) = 1) ∧ (w.1 = 2 ∨ w.1 = 8 ∨ w.1 = 11 ∨ w.1 = 12 → zent 0 (3 * nI w.1 + 1) = 1)) := by decide +kernel
theorem ywyB_iff {w : Nat} : ywyB w = true ↔ ywy w ∧ 2 ≤ w := by
  unfold ywyB ywy
  simp only [Bool.and_eq_true, Bool.or_eq_true, decide_eq_true_eq]
  constructor
  · rintro ⟨(h | h) | h, h2⟩
    · exact ⟨Or.inl h, h2⟩
    · exact ⟨Or.inr (Or.inl h), h2⟩
    · exact ⟨Or.inr (Or.inr h), h2⟩
  · rintro ⟨h | h | h, h2⟩
    · exact ⟨Or.inl (Or.inl h), h2⟩
    · exact ⟨Or.inl (Or.inr h), h2⟩
    · exact ⟨Or.inr h, h2⟩
theorem in_of {w : Int32} (h1 : (0 : Int32) ≤ w) (h2 : w ≤ 22) : ∃ n : Nat, n < 23 ∧ w = nI n := by
  obtain ⟨j, hj, e⟩ := (zin_nI (n := 22) (by decide)).mp (show zin w 0 (nI 22) from ⟨h1, h2⟩)
  exact ⟨j, by omega, e⟩
theorem zway_iff {w : Int32} : zway w ↔ ∃ n : Nat, n < 23 ∧ w = nI n ∧ ywyB n = true := by
  constructor
  · intro h
    obtain ⟨n, hn, e⟩ := in_of (Int32.le_trans (by decide) (Int32.le_of_lt h.1)) h.2.1
    refine ⟨n, hn, e, ?_⟩
    have m := mk_way ⟨n, hn⟩
    rw [← m]
    subst e
    unfold zwayB
    simp only [Bool.and_eq_true, decide_eq_true_eq, Bool.not_eq_true', decide_eq_false_iff_not]
    exact ⟨⟨h.1, h.2.1⟩, h.2.2⟩
  · rintro ⟨n, hn, e, hb⟩
    have m := mk_way ⟨n, hn⟩
    rw [hb] at m
    unfold zwayB at m
    simp only [Bool.and_eq_true, decide_eq_true_eq, Bool.not_eq_true', decide_eq_false_iff_not] at m
    subst e
    exact ⟨m.1.1, m.1.2, m.2⟩
theorem zne_iff {n : Nat} (hn : n < 23) : (zin (nI n) 2 22 ∧ 0 ≤ zne n) ↔ ywyB n = true := by
  rw [← mk_ne ⟨n, hn⟩]
  unfold zneB zin
  simp only [Bool.and_eq_true, decide_eq_true_eq]
theorem fit_ao {m mc p : Nat} {P : yP} {t : yTo} {cl : yCl} {σ σ' : zMem} {o e dg : Int32} (hm : m ≤ 40) (hC : zSC p m mc P t cl σ) (hR : zSR p m mc P t cl σ') (hd : dg = e + 1) (h3 : e ≠ 3) (ho : e ≠ -1 → ∃ i, i < m ∧ o = nI i) : zfits σ o e ↔ ((dg = 0 → o = 0) ∧ (∀ q, ¬ dg = 0 → o = nI q → q < 40 → zg (zt0 σ') q 0 = dg - 1)) := by
  have d1 : dg - 1 = e := by rw [hd]; exact Int32.add_sub_cancel e 1
  have d0 : dg = 0 ↔ e = -1 := by
    constructor
    · intro g; rw [← d1, g]; decide
    · intro g; rw [hd, g]; decide
  unfold zfits
  rw [d1, d0]
  by_cases g : e = -1
  · rw [if_pos g]
    exact ⟨fun h => ⟨fun _ => h, fun q h' => absurd g h'⟩, fun h => h.1 g⟩
  · rw [if_neg g]
    obtain ⟨i, hi, eo⟩ := ho g
    subst eo
    rw [zat_in hC.1.2.1 (by omega) hi, (hC.1.2.2.2.2 i hi).2.1]
    constructor
    · rintro (h | h)
      · exact absurd h h3
      · refine ⟨fun q => absurd q g, fun q _ hq hq40 => ?_⟩
        have : i = q := nI_inj' (by omega) (by omega) hq
        subst this
        rw [zt0_g, (hR.1.2.2 i hi).1]
        exact h
    · rintro ⟨_, h⟩
      have := h i g rfl (by omega)
      rw [zt0_g, (hR.1.2.2 i hi).1] at this
      exact Or.inr this
