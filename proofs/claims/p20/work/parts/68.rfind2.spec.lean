/-! ===== the reference's find, all ways ===== -/
theorem yLn_none {p : Nat} {a b c : Int} (h : yR p (yfs p a b) = 0) : yLn p a b c = none := by unfold yLn; rw [if_pos h]
theorem yLn_is {p : Nat} {a b c : Int} (h : ¬ yR p (yfs p a b) = 0) : yLn p a b c = some (yR p (a * yV p (yfs p a b)), yR p (b * yV p (yfs p a b)), yR p (c * yV p (yfs p a b))) := by unfold yLn; rw [if_neg h]
theorem zLaid_ln {p : Nat} {σ : zMem} {a b c : Int32} {e f g : Int} {B C D : Nat} {L : yT} (hp : zpr p) (hs : σ 0 0 1 = nI p) (ha : yB a e B) (hb : yB b f C) (hc : yB c g D) (h : yLn p e f g = some L) : zLaid (zlnl σ p a b c) L := by
  have l := rOut_ln (τ := []) hp hs ha hb hc
  rw [h] at l
  obtain ⟨σ', e, _, hl⟩ := l
  unfold zll at e
  by_cases h0 : zfs p a b = 0
  · rw [if_pos h0] at e
    exact absurd e (by simp)
  · rw [if_neg h0] at e
    have e := congrArg (fun o : Option zOut => o.map (fun x => x.2.1)) e
    simp only [Option.map_some, Option.some.injEq] at e
    rw [e]
    exact hl
theorem r_bA {p o q : Nat} {σ : zMem} {A B : yT} (a : yB (zg σ o 8) A.1 42 ∧ yB (zg σ o 9) A.2.1 42 ∧ yB (zg σ o 10) A.2.2 42) (b : yB (zg σ q 8) B.1 42 ∧ yB (zg σ q 9) B.2.1 42 ∧ yB (zg σ q 10) B.2.2 42) :
    yB (zbA σ o q) (ybA A B) (2 * (42 + 42)) ∧ yB (zbB σ o q) (ybB A B) (2 * (42 + 42)) ∧ yB (zbC σ o q) (ybC A B) (42 * 42 + 42 * 42 + 42 * 42 + 42 * 42) ∧ yB (zqC σ o q) (ybC A B - A.2.2 + B.2.2) (42 * 42 + 42 * 42 + 42 * 42 + 42 * 42 + 42 + 42) := by
  obtain ⟨a1, a2, a3⟩ := a
  obtain ⟨b1, b2, b3⟩ := b
  have c := yB_sub (yB_sub (yB_add (yB_mul a1 a1 (by decide)) (yB_mul a2 a2 (by decide)) (by decide)) (yB_mul b1 b1 (by decide)) (by decide)) (yB_mul b2 b2 (by decide)) (by decide)
  exact ⟨yB_mul yB_2 (yB_sub b1 a1 (by decide)) (by decide), yB_mul yB_2 (yB_sub b2 a2 (by decide)) (by decide), c, yB_add (yB_sub c a3 (by decide)) b3 (by decide)⟩
theorem rOut_two {σ σ0 : zMem} {τ : zTmp} {F : Option yT} {o o' : Option zOut} (hL : zL3 σ0 σ) (h : rOut σ τ F o) (f : ∀ r σ', (r = 0 ∨ r = 1) → o = some (.inl (some (zI r)), (σ', τ)) → o' = some (.inl (some (zI r)), (σ', τ))) : rOut σ0 τ F o' := rOut_L3 hL (rOut_of h f)
