/-! ===== make ===== -/
def zwayB (w : Nat) : Bool := decide ((1 : Int32) < nI w) && decide (nI w ≤ 22) && !decide (zent 0 (3 * nI w) = -1)
def ywyB (w : Nat) : Bool := (decide (w < 9) || decide (10 ≤ w ∧ w < 14) || decide (20 ≤ w ∧ w < 23)) && decide (2 ≤ w)
theorem mk_way : ∀ w : Fin 23, zwayB w.1 = ywyB w.1 := by decide +kernel
theorem ywyB_iff {w : Nat} : ywyB w = true ↔ ywy w ∧ 2 ≤ w := by
  unfold ywyB ywy
  simp only [Bool.and_eq_true, Bool.or_eq_true, decide_eq_true_eq]
  constructor
  · rintro ⟨(h | h) | h, h2⟩
    · exact ⟨Or.inl h, h2⟩
    · exact ⟨Or.inr (Or.inl h), h2⟩
    · exact ⟨Or.inr (Or.inr h), h2⟩
  · rintro ⟨h | h | h, h2⟩
    · exact ⟨Or.inl (Or.inl h), h2⟩
    · exact ⟨Or.inl (Or.inr h), h2⟩
    · exact ⟨Or.inr h, h2⟩
theorem in_of {w : Int32} (h1 : (0 : Int32) ≤ w) (h2 : w ≤ 22) : ∃ n : Nat, n < 23 ∧ w = nI n := by
  obtain ⟨j, hj, e⟩ := (zin_nI (n := 22) (by decide)).mp (show zin w 0 (nI 22) from ⟨h1, h2⟩)
  exact ⟨j, by omega, e⟩
theorem zway_iff {w : Int32} : zway w ↔ ∃ n : Nat, n < 23 ∧ w = nI n ∧ ywyB n = true := by
  constructor
  · intro h
    obtain ⟨n, hn, e⟩ := in_of (Int32.le_trans (by decide) (Int32.le_of_lt h.1)) h.2.1
    refine ⟨n, hn, e, ?_⟩
    have m := mk_way ⟨n, hn⟩
    rw [← m]
    subst e
    unfold zwayB
    simp only [Bool.and_eq_true, decide_eq_true_eq, Bool.not_eq_true', decide_eq_false_iff_not]
    exact ⟨⟨h.1, h.2.1⟩, h.2.2⟩
  · rintro ⟨n, hn, e, hb⟩
    have m := mk_way ⟨n, hn⟩
    rw [hb] at m
    unfold zwayB at m
    simp only [Bool.and_eq_true, decide_eq_true_eq, Bool.not_eq_true', decide_eq_false_iff_not] at m
    subst e
    exact ⟨m.1.1, m.1.2, m.2⟩
