/-! ===== two lines ===== -/
theorem y_I_on {p : Nat} {A B : yT} (hp : zpr p) (hD : ¬ yE p (yD A B) 0) : yon p A (yX p A B) (yY p A B) ∧ yon p B (yX p A B) (yY p A B) := by
  obtain ⟨k, hk⟩ := y_inv hp hD
  unfold yon yX yY
  have hd : yD A B = (A.1 : Int) * B.2.1 - (B.1 : Int) * A.2.1 := rfl
  generalize yV p (yD A B) = i at hk ⊢
  rw [hd] at hk
  generalize (A.1 : Int) = a1 at hk ⊢
  generalize (A.2.1 : Int) = b1 at hk ⊢
  generalize (A.2.2 : Int) = c1 at hk ⊢
  generalize (B.1 : Int) = a2 at hk ⊢
  generalize (B.2.1 : Int) = b2 at hk ⊢
  generalize (B.2.2 : Int) = c2 at hk ⊢
  exact ⟨⟨-(c1 * k), by grind⟩, ⟨-(c2 * k), by grind⟩⟩
theorem y_I_uniq {p : Nat} {A B : yT} {x y : Int} (hp : zpr p) (hD : ¬ yE p (yD A B) 0) (h1 : yon p A x y) (h2 : yon p B x y) : yE p (yX p A B) x ∧ yE p (yY p A B) y := by
  obtain ⟨k, hk⟩ := y_inv hp hD
  obtain ⟨k1, h1⟩ := h1
  obtain ⟨k2, h2⟩ := h2
  unfold yX yY
  have hd : yD A B = (A.1 : Int) * B.2.1 - (B.1 : Int) * A.2.1 := rfl
  generalize yV p (yD A B) = i at hk ⊢
  rw [hd] at hk
  generalize (A.1 : Int) = a1 at h1 hk ⊢
  generalize (A.2.1 : Int) = b1 at h1 hk ⊢
  generalize (A.2.2 : Int) = c1 at h1 hk ⊢
  generalize (B.1 : Int) = a2 at h2 hk ⊢
  generalize (B.2.1 : Int) = b2 at h2 hk ⊢
  generalize (B.2.2 : Int) = c2 at h2 hk ⊢
  have e1 : b1 * c2 - b2 * c1 = (a1 * b2 - a2 * b1) * x - p * (b2 * k1 - b1 * k2) := by grind
  have e2 : a2 * c1 - a1 * c2 = (a1 * b2 - a2 * b1) * y - p * (a1 * k2 - a2 * k1) := by grind
  refine ⟨⟨x * k - i * (b2 * k1 - b1 * k2), ?_⟩, ⟨y * k - i * (a1 * k2 - a2 * k1), ?_⟩⟩
  · rw [e1]
    grind
  · rw [e2]
    grind
def ypa (A B : yT) : Prop := A.1 = B.1 ∧ A.2.1 = B.2.1
theorem y_par {p : Nat} {A B : yT} (hp : zpr p) (hA : yLine p A) (hB : yLine p B) : yE p (yD A B) 0 ↔ ypa A B := by
  have h7 := (zpr_lt hp).1
  obtain ⟨⟨a1, a2, a3⟩, hA⟩ := hA
  obtain ⟨⟨b1, b2, b3⟩, hB⟩ := hB
  unfold yD ypa
  constructor
  · intro h
    rcases hA with hA | ⟨hA, hA'⟩ <;> rcases hB with hB | ⟨hB, hB'⟩
    · rw [hA, hB] at h
      refine ⟨by rw [hA, hB], ?_⟩
      have h' : yE p (B.2.1 : Int) A.2.1 := by
        obtain ⟨k, hk⟩ := h
        exact ⟨k, by omega⟩
      exact (yE_nat b2 a2 h').symm
    · rw [hA, hB, hB'] at h
      exact absurd (yE_trans (yE_eq (by simp)) h) (y_1 hp)
    · rw [hA, hB, hA'] at h
      obtain ⟨k, hk⟩ := h
      exact absurd (⟨-k, by rw [Int.mul_neg]; omega⟩ : yE p 1 0) (y_1 hp)
    · exact ⟨by rw [hA, hB], by rw [hA', hB']⟩
  · rintro ⟨h1, h2⟩
    rw [h1, h2]
    exact yE_eq (Int.sub_self _)
theorem yF1_on {p : Nat} {A : yT} {t : Int} (hp : zpr p) (hA : yLine p A) : yon p A (yF1 p t A).1 (yF1 p t A).2.1 := by
  have h0 := zpr_pos hp
  obtain ⟨⟨a1, a2, a3⟩, hA⟩ := hA
  unfold yF1
  by_cases hb : A.2.1 = 0
  · rw [if_pos hb]
    have ha : A.1 = 1 := by
      rcases hA with h | ⟨_, h⟩
      · exact h
      · omega
    refine yon_E (yE_symm (yE_R h0)) (yE_symm (yE_R h0)) ?_
    unfold yon
    rw [ha, hb]
    exact yE_eq (by simp; omega)
  · rw [if_neg hb]
    obtain ⟨k, hk⟩ := y_inv hp (fun g => hb (yE_nat a2 h0 g))
    refine yon_E (yE_symm (yE_R h0)) (yE_symm (yE_R h0)) ⟨-(((A.1 : Int) * t + A.2.2) * k), ?_⟩
    generalize yV p (A.2.1 : Int) = i at hk ⊢
    generalize (A.1 : Int) = a at hk ⊢
    generalize (A.2.1 : Int) = b at hk ⊢
    generalize (A.2.2 : Int) = c at hk ⊢
    grind
theorem yF1_all {p x y : Nat} {A : yT} (hp : zpr p) (hA : yLine p A) (hx : x < p) (hy : y < p) (h : yon p A x y) : yF1 p (if A.2.1 = 0 then (y : Int) else (x : Int)) A = (x, y, 0) := by
  have h0 := zpr_pos hp
  obtain ⟨⟨a1, a2, a3⟩, hA⟩ := hA
  unfold yF1
  obtain ⟨k1, h1⟩ := h
  by_cases hb : A.2.1 = 0
  · rw [if_pos hb, if_pos hb]
    have ha : A.1 = 1 := by
      rcases hA with h | ⟨_, h⟩
      · exact h
      · omega
    rw [ha, hb] at h1
    have e : yR p (-(A.2.2 : Int)) = x := by
      have : yE p (-(A.2.2 : Int)) x := ⟨-k1, by rw [Int.mul_neg]; simp at h1; omega⟩
      have := yR_E this
      rw [yR_nat hx] at this
      exact this
    rw [e, yR_nat hy]
  · rw [if_neg hb, if_neg hb]
    obtain ⟨k, hk⟩ := y_inv hp (fun g => hb (yE_nat a2 h0 g))
    have e : yR p (-((A.1 : Int) * x + A.2.2) * yV p A.2.1) = y := by
      have : yE p (-((A.1 : Int) * x + A.2.2) * yV p A.2.1) y := by
        refine ⟨y * k - k1 * yV p A.2.1, ?_⟩
        generalize yV p (A.2.1 : Int) = i at hk ⊢
        generalize (A.1 : Int) = a at h1 hk ⊢
        generalize (A.2.1 : Int) = b at h1 hk ⊢
        generalize (A.2.2 : Int) = c at h1 hk ⊢
        have e1 : -(a * x + c) = b * y - p * k1 := by omega
        rw [e1]
        grind
      have := yR_E this
      rw [yR_nat hy] at this
      exact this
    rw [e, yR_nat hx]
theorem yF1_lt {p : Nat} {A : yT} {t : Int} (hp : zpr p) : (yF1 p t A).1 < p ∧ (yF1 p t A).2.1 < p ∧ (yF1 p t A).2.2 = 0 := by
  have h0 := zpr_pos hp
  unfold yF1
  by_cases hb : A.2.1 = 0
  · rw [if_pos hb]; exact ⟨yR_lt h0, yR_lt h0, rfl⟩
  · rw [if_neg hb]; exact ⟨yR_lt h0, yR_lt h0, rfl⟩
/-- three lines have a place in common: two ways to tell -/
def yHc (p : Nat) (A B C : yT) : Prop := ∃ t : Nat, t < p ∧ yon p B (yF1 p t A).1 (yF1 p t A).2.1 ∧ yon p C (yF1 p t A).1 (yF1 p t A).2.1
def ySh (p : Nat) (A B C : yT) : Prop := ypa A B ∧ A.2.2 = B.2.2 ∧ (ypa A C → A.2.2 = C.2.2) ∨ ¬ ypa A B ∧ yon p C (yX p A B) (yY p A B)
theorem yHc_iff {p : Nat} {A B C : yT} (hp : zpr p) (hA : yLine p A) : yHc p A B C ↔ ∃ x y : Int, yon p A x y ∧ yon p B x y ∧ yon p C x y := by
  have h0 := zpr_pos hp
  constructor
  · rintro ⟨t, _, h1, h2⟩
    exact ⟨_, _, yF1_on hp hA, h1, h2⟩
  · rintro ⟨x, y, h1, h2, h3⟩
    have ex : yE p x (yR p x : Nat) := yE_symm (yE_R h0)
    have ey : yE p y (yR p y : Nat) := yE_symm (yE_R h0)
    have e := yF1_all hp hA (yR_lt h0) (yR_lt h0) (yon_E ex ey h1)
    by_cases hb : A.2.1 = 0
    · rw [if_pos hb] at e
      refine ⟨yR p y, yR_lt h0, ?_⟩
      rw [e]
      exact ⟨yon_E ex ey h2, yon_E ex ey h3⟩
    · rw [if_neg hb] at e
      refine ⟨yR p x, yR_lt h0, ?_⟩
      rw [e]
      exact ⟨yon_E ex ey h2, yon_E ex ey h3⟩
theorem y_par_on {p : Nat} {A B : yT} {x y : Int} (hA : A.2.2 < p) (hB : B.2.2 < p) (h : ypa A B) (h1 : yon p A x y) (h2 : yon p B x y) : A.2.2 = B.2.2 := by
  obtain ⟨g1, g2⟩ := h
  obtain ⟨k1, h1⟩ := h1
  obtain ⟨k2, h2⟩ := h2
  rw [g1, g2] at h1
  exact yE_nat hA hB ⟨k1 - k2, by rw [Int.mul_sub]; omega⟩
theorem y_same_on {p : Nat} {A B : yT} {x y : Int} (h : ypa A B) (h' : A.2.2 = B.2.2) (h1 : yon p A x y) : yon p B x y := by
  obtain ⟨g1, g2⟩ := h
  unfold yon at h1 ⊢
  rw [g1, g2, h'] at h1
  exact h1
theorem y_share {p : Nat} {A B C : yT} (hp : zpr p) (hA : yLine p A) (hB : yLine p B) (hC : yLine p C) : ySh p A B C ↔ yHc p A B C := by
  rw [yHc_iff hp hA]
  constructor
  · rintro (⟨h1, h2, h3⟩ | ⟨h1, h2⟩)
    · by_cases hp2 : ypa A C
      · have on := yF1_on (t := 0) hp hA
        exact ⟨_, _, on, y_same_on h1 h2 on, y_same_on hp2 (h3 hp2) on⟩
      · have := y_I_on hp (fun g => hp2 ((y_par hp hA hC).mp g))
        exact ⟨_, _, this.1, y_same_on h1 h2 this.1, this.2⟩
    · have := y_I_on hp (fun g => h1 ((y_par hp hA hB).mp g))
      exact ⟨_, _, this.1, this.2, h2⟩
  · rintro ⟨x, y, h1, h2, h3⟩
    by_cases hp1 : ypa A B
    · refine Or.inl ⟨hp1, y_par_on hA.1.2.2 hB.1.2.2 hp1 h1 h2, fun hp2 => y_par_on hA.1.2.2 hC.1.2.2 hp2 h1 h3⟩
    · refine Or.inr ⟨hp1, ?_⟩
      obtain ⟨ex, ey⟩ := y_I_uniq hp (fun g => hp1 ((y_par hp hA hB).mp g)) h1 h2
      exact yon_E (yE_symm ex) (yE_symm ey) h3
/-! ===== a circle through three places ===== -/
theorem yfs_0 {p : Nat} {a b : Int} (hp : zpr p) : yR p (yfs p a b) = 0 ↔ yE p a 0 ∧ yE p b 0 := by
  have h0 := zpr_pos hp
  unfold yfs
  by_cases h : yR p a = 0
  · rw [if_pos h, yR_0 h0]
    exact ⟨fun g => ⟨(yR_0 h0).mp h, g⟩, fun g => g.2⟩
  · rw [if_neg h]
    exact ⟨fun g => absurd g h, fun g => absurd ((yR_0 h0).mpr g.1) h⟩
theorem y_UW {p : Nat} {A B C : yT} (hp : zpr p) (hC : ¬ yE p (yC A B C) 0) : yE p (2 * (((B.1 : Int) - A.1) * yU p A B C + ((B.2.1 : Int) - A.2.1) * yW p A B C)) (yS A B) ∧ yE p (2 * (((C.1 : Int) - A.1) * yU p A B C + ((C.2.1 : Int) - A.2.1) * yW p A B C)) (yS A C) := by
  obtain ⟨k, hk⟩ := y_inv hp (y_ne_mul hp (y_2 hp) hC)
  unfold yU yW
  have hc : yC A B C = ((B.1 : Int) - A.1) * ((C.2.1 : Int) - A.2.1) - ((C.1 : Int) - A.1) * ((B.2.1 : Int) - A.2.1) := rfl
  generalize yV p (2 * yC A B C) = i at hk ⊢
  rw [hc] at hk
  generalize yS A B = qs
  generalize yS A C = rs
  generalize (B.1 : Int) - A.1 = qx at hk ⊢
  generalize (B.2.1 : Int) - A.2.1 = qy at hk ⊢
  generalize (C.1 : Int) - A.1 = rx at hk ⊢
  generalize (C.2.1 : Int) - A.2.1 = ry at hk ⊢
  exact ⟨⟨qs * k, by grind⟩, ⟨rs * k, by grind⟩⟩
theorem y_q0 {p : Nat} {A B C : yT} (h1 : yE p ((B.1 : Int) - A.1) 0) (h2 : yE p ((B.2.1 : Int) - A.2.1) 0) : yE p (yC A B C) 0 := by
  refine yE_trans (yE_sub (yE_mul h1 yE_refl) (yE_mul yE_refl h2)) (yE_eq ?_)
  simp
theorem y_r0 {p : Nat} {A B C : yT} (h1 : yE p ((C.1 : Int) - A.1) 0) (h2 : yE p ((C.2.1 : Int) - A.2.1) 0) : yE p (yC A B C) 0 := by
  refine yE_trans (yE_sub (yE_mul yE_refl h2) (yE_mul h1 yE_refl)) (yE_eq ?_)
  simp
/-- the three are on the circle -/
theorem y_three {p : Nat} {A B C : yT} (hp : zpr p) (hC : ¬ yE p (yC A B C) 0) : yE p ((((B.1 : Int) - A.1) - yU p A B C) * (((B.1 : Int) - A.1) - yU p A B C) + (((B.2.1 : Int) - A.2.1) - yW p A B C) * (((B.2.1 : Int) - A.2.1) - yW p A B C)) (yU p A B C * yU p A B C + yW p A B C * yW p A B C) ∧ yE p ((((C.1 : Int) - A.1) - yU p A B C) * (((C.1 : Int) - A.1) - yU p A B C) + (((C.2.1 : Int) - A.2.1) - yW p A B C) * (((C.2.1 : Int) - A.2.1) - yW p A B C)) (yU p A B C * yU p A B C + yW p A B C * yW p A B C) := by
  obtain ⟨⟨k, h1⟩, ⟨l, h2⟩⟩ := y_UW hp hC
  unfold yS at h1 h2
  generalize yU p A B C = U at h1 h2 ⊢
  generalize yW p A B C = W at h1 h2 ⊢
  generalize (B.1 : Int) - A.1 = qx at h1 h2 ⊢
  generalize (B.2.1 : Int) - A.2.1 = qy at h1 h2 ⊢
  generalize (C.1 : Int) - A.1 = rx at h1 h2 ⊢
  generalize (C.2.1 : Int) - A.2.1 = ry at h1 h2 ⊢
  exact ⟨⟨-k, by grind⟩, ⟨-l, by grind⟩⟩
theorem y_rad {p : Nat} {A B C : yT} (hp : zpr p) (hC : ¬ yE p (yC A B C) 0) : ¬ yE p (yU p A B C * yU p A B C + yW p A B C * yW p A B C) 0 := by
  intro h
  have h1 := yE_trans (y_three hp hC).1 h
  obtain ⟨u0, w0⟩ := y_sq2 hp h
  obtain ⟨a0, b0⟩ := y_sq2 hp h1
  have e1 : yE p ((B.1 : Int) - A.1) 0 := by
    have := yE_add a0 u0
    rw [Int.sub_add_cancel] at this
    exact this
  have e2 : yE p ((B.2.1 : Int) - A.2.1) 0 := by
    have := yE_add b0 w0
    rw [Int.sub_add_cancel] at this
    exact this
  exact hC (y_q0 e1 e2)
/-- a line by its numbers, the divisor out -/
theorem yLn_some {p : Nat} {a b c : Int} {L : yT} (hp : zpr p) (h : yLn p a b c = some L) : ∃ f : Int, ¬ yE p f 0 ∧ yE p L.1 (a * f) ∧ yE p L.2.1 (b * f) ∧ yE p L.2.2 (c * f) := by
  have h0 := zpr_pos hp
  unfold yLn at h
  by_cases g : yR p (yfs p a b) = 0
  · rw [if_pos g] at h; exact absurd h (by simp)
  · rw [if_neg g] at h
    have h := Option.some.inj h
    subst h
    exact ⟨yV p (yfs p a b), yV_ne hp (fun k => g ((yR_0 h0).mpr k)), yE_R h0, yE_R h0, yE_R h0⟩
theorem yLn_on {p : Nat} {a b c x y : Int} {L : yT} (hp : zpr p) (h : yLn p a b c = some L) (he : yE p (a * x + b * y + c) 0) : yon p L x y := by
  obtain ⟨f, _, h1, h2, h3⟩ := yLn_some hp h
  refine yE_trans (yE_add (yE_add (yE_mul h1 yE_refl) (yE_mul h2 yE_refl)) h3) ?_
  refine yE_trans (yE_eq (b := f * (a * x + b * y + c)) (by grind)) ?_
  have := yE_mul (yE_refl (a := f)) he
  rw [Int.mul_zero] at this
  exact this
theorem y_bis_ne {p : Nat} {A B : yT} (hp : zpr p) (h : ¬ (yE p ((B.1 : Int) - A.1) 0 ∧ yE p ((B.2.1 : Int) - A.2.1) 0)) : ¬ yR p (yfs p (ybA A B) (ybB A B)) = 0 := by
  intro g
  obtain ⟨g1, g2⟩ := (yfs_0 hp).mp g
  exact h ⟨(y_prime hp g1).elim (fun k => absurd k (y_2 hp)) id, (y_prime hp g2).elim (fun k => absurd k (y_2 hp)) id⟩
theorem y_bis_on {p : Nat} {A B C : yT} (hp : zpr p) (hC : ¬ yE p (yC A B C) 0) : yE p (ybA A B * (A.1 + yU p A B C) + ybB A B * (A.2.1 + yW p A B C) + ybC A B) 0 ∧ yE p (ybA A C * (A.1 + yU p A B C) + ybB A C * (A.2.1 + yW p A B C) + ybC A C) 0 := by
  obtain ⟨⟨k, h1⟩, ⟨l, h2⟩⟩ := y_UW hp hC
  unfold yS at h1 h2
  unfold ybA ybB ybC
  generalize yU p A B C = U at h1 h2 ⊢
  generalize yW p A B C = W at h1 h2 ⊢
  generalize (A.1 : Int) = ax at h1 h2 ⊢
  generalize (A.2.1 : Int) = ay at h1 h2 ⊢
  generalize (B.1 : Int) = bx at h1 h2 ⊢
  generalize (B.2.1 : Int) = bY at h1 h2 ⊢
  generalize (C.1 : Int) = cx at h1 h2 ⊢
  generalize (C.2.1 : Int) = cy at h1 h2 ⊢
  exact ⟨⟨k, by grind⟩, ⟨l, by grind⟩⟩
/-- the centre as the intersection of two bisectors -/
theorem y_centre {p : Nat} {A B C L M : yT} (hp : zpr p) (hC : ¬ yE p (yC A B C) 0) (h1 : yLn p (ybA A B) (ybB A B) (ybC A B) = some L) (h2 : yLn p (ybA A C) (ybB A C) (ybC A C) = some M) : ¬ yE p (yD L M) 0 ∧ yE p (yX p L M) (A.1 + yU p A B C) ∧ yE p (yY p L M) (A.2.1 + yW p A B C) := by
  obtain ⟨f, hf, l1, l2, l3⟩ := yLn_some hp h1
  obtain ⟨g, hg, m1, m2, m3⟩ := yLn_some hp h2
  have hD : ¬ yE p (yD L M) 0 := by
    intro k
    have k1 : yE p (yD L M) ((ybA A B * f) * (ybB A C * g) - (ybA A C * g) * (ybB A B * f)) := yE_sub (yE_mul l1 m2) (yE_mul m1 l2)
    have k2 := yE_trans (yE_symm k1) k
    have e : (ybA A B * f) * (ybB A C * g) - (ybA A C * g) * (ybB A B * f) = (f * g) * ((2 * 2) * yC A B C) := by
      unfold ybA ybB yC
      grind
    rw [e] at k2
    exact y_ne_mul hp (y_ne_mul hp hf hg) (y_ne_mul hp (y_ne_mul hp (y_2 hp) (y_2 hp)) hC) k2
  obtain ⟨o1, o2⟩ := y_bis_on hp hC
  exact ⟨hD, y_I_uniq hp hD (yLn_on hp h1 o1) (yLn_on hp h2 o2)⟩

