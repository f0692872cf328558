/-! ===== what is made, in numbers ===== -/
abbrev yT := Nat × Nat × Nat
def yOk (p : Nat) (A : yT) : Prop := A.1 < p ∧ A.2.1 < p ∧ A.2.2 < p
/-- a line whose first number that is not 0 is 1 -/
def yLine (p : Nat) (A : yT) : Prop := yOk p A ∧ (A.1 = 1 ∨ A.1 = 0 ∧ A.2.1 = 1)
def yF1 (p : Nat) (t : Int) (A : yT) : yT := if A.2.1 = 0 then (yR p (-A.2.2), yR p t, 0) else (yR p t, yR p (-((A.1 : Int) * t + A.2.2) * yV p A.2.1), 0)
def yD (A B : yT) : Int := (A.1 : Int) * B.2.1 - (B.1 : Int) * A.2.1
def yX (p : Nat) (A B : yT) : Int := ((A.2.1 : Int) * B.2.2 - (B.2.1 : Int) * A.2.2) * yV p (yD A B)
def yY (p : Nat) (A B : yT) : Int := ((B.1 : Int) * A.2.2 - (A.1 : Int) * B.2.2) * yV p (yD A B)
def yF2 (p : Nat) (A B : yT) : Option yT := if yR p (yD A B) = 0 then none else some (yR p (yX p A B), yR p (yY p A B), 0)
def yfs (p : Nat) (a b : Int) : Int := if yR p a = 0 then b else a
def yLn (p : Nat) (a b c : Int) : Option yT := if yR p (yfs p a b) = 0 then none else some (yR p (a * yV p (yfs p a b)), yR p (b * yV p (yfs p a b)), yR p (c * yV p (yfs p a b)))
def yn (L : yT) : Int := (L.1 : Int) * L.1 + (L.2.1 : Int) * L.2.1
def ye (L K : yT) : Int := (L.1 : Int) * K.1 + (L.2.1 : Int) * K.2.1 + L.2.2
def yds (L K : yT) : Int := (K.2.2 : Int) * yn L - ye L K * ye L K
def yPx (p : Nat) (L K : yT) (r : Int) : Nat := yR p (K.1 + (-(L.1 : Int) * ye L K - (L.2.1 : Int) * r) * yV p (yn L))
def yPy (p : Nat) (L K : yT) (r : Int) : Nat := yR p (K.2.1 + (-(L.2.1 : Int) * ye L K + (L.1 : Int) * r) * yV p (yn L))
def yle (x1 y1 x2 y2 : Nat) : Prop := x1 < x2 ∨ x1 = x2 ∧ y1 ≤ y2
noncomputable def ypick (first : Prop) (A B : yT) : yT := @ite _ (yle A.1 A.2.1 B.1 B.2.1 ↔ first) (Classical.propDecidable _) A B
noncomputable def yLC (p : Nat) (first : Prop) (L K : yT) : Option yT := match yrt p (yR p (yds L K)) with
  | none => none
  | some r => some (ypick first (yPx p L K r, yPy p L K r, 0) (yPx p L K (-r), yPy p L K (-r), 0))
def yF7 (p : Nat) (A B : yT) : yT := (yR p (((A.1 : Int) + B.1) * yV p 2), yR p (((A.2.1 : Int) + B.2.1) * yV p 2), 0)
def yk (p : Nat) (A L : yT) : Int := 2 * ye L A * yV p (yn L)
def yF8 (p : Nat) (A L : yT) : yT := (yR p ((A.1 : Int) - yk p A L * L.1), yR p ((A.2.1 : Int) - yk p A L * L.2.1), 0)
def yF10 (p : Nat) (A B : yT) : Option yT := yLn p ((A.2.1 : Int) - B.2.1) ((B.1 : Int) - A.1) ((A.1 : Int) * B.2.1 - (B.1 : Int) * A.2.1)
def yF11 (p : Nat) (A L : yT) : yT := (L.1, L.2.1, yR p (-((L.1 : Int) * A.1 + (L.2.1 : Int) * A.2.1)))
def yF12 (p : Nat) (A L : yT) : Option yT := yLn p (-(L.2.1 : Int)) L.1 ((L.2.1 : Int) * A.1 - (L.1 : Int) * A.2.1)
def ybA (A B : yT) : Int := 2 * ((B.1 : Int) - A.1)
def ybB (A B : yT) : Int := 2 * ((B.2.1 : Int) - A.2.1)
def ybC (A B : yT) : Int := (A.1 : Int) * A.1 + (A.2.1 : Int) * A.2.1 - (B.1 : Int) * B.1 - (B.2.1 : Int) * B.2.1
def yF13 (p : Nat) (A B : yT) : Option yT := yLn p (ybA A B) (ybB A B) (ybC A B)
def ych (p : Nat) (A B : yT) : Option yT := yLn p (ybA A B) (ybB A B) (ybC A B - A.2.2 + B.2.2)
noncomputable def yF5 (p : Nat) (first : Prop) (A B : yT) : Option yT := match ych p A B with
  | none => none
  | some L => yLC p first L A
def ysq (A B : yT) : Int := ((A.1 : Int) - B.1) * ((A.1 : Int) - B.1) + ((A.2.1 : Int) - B.2.1) * ((A.2.1 : Int) - B.2.1)
def yF21 (p : Nat) (O A B : yT) : Option yT := if yR p (ysq A B) = 0 then none else some (O.1, O.2.1, yR p (ysq A B))
def yC (A B C : yT) : Int := ((B.1 : Int) - A.1) * ((C.2.1 : Int) - A.2.1) - ((C.1 : Int) - A.1) * ((B.2.1 : Int) - A.2.1)
def yS (A B : yT) : Int := ((B.1 : Int) - A.1) * ((B.1 : Int) - A.1) + ((B.2.1 : Int) - A.2.1) * ((B.2.1 : Int) - A.2.1)
def yU (p : Nat) (A B C : yT) : Int := (((C.2.1 : Int) - A.2.1) * yS A B - ((B.2.1 : Int) - A.2.1) * yS A C) * yV p (2 * yC A B C)
def yW (p : Nat) (A B C : yT) : Int := (((B.1 : Int) - A.1) * yS A C - ((C.1 : Int) - A.1) * yS A B) * yV p (2 * yC A B C)
def yF22 (p : Nat) (A B C : yT) : Option yT := if yR p (yC A B C) = 0 then none else some (yR p (A.1 + yU p A B C), yR p (A.2.1 + yW p A B C), yR p (yU p A B C * yU p A B C + yW p A B C * yW p A B C))
noncomputable def yF (p w : Nat) (x y : Int) (A B C : yT) : Option yT :=
  if w = 0 then some (yR p x, yR p y, 0) else if w = 1 then some (yF1 p x A) else if w = 2 then yF2 p A B else if w = 3 then yLC p True A B else if w = 4 then yLC p False A B
  else if w = 5 then yF5 p True A B else if w = 6 then yF5 p False A B else if w = 7 then some (yF7 p A B) else if w = 8 then some (yF8 p A B) else if w = 10 then yF10 p A B
  else if w = 11 then some (yF11 p A B) else if w = 12 then yF12 p A B else if w = 13 then yF13 p A B else if w = 20 then yF21 p A A B else if w = 21 then yF21 p A B C else yF22 p A B C
/-! ===== lines ===== -/
theorem y_first {p : Nat} {L : yT} (hp : zpr p) (h : yLine p L) : ¬ yE p (yfs p L.1 L.2.1) 0 := by
  have h0 := zpr_pos hp
  obtain ⟨⟨h1, h2, h3⟩, h⟩ := h
  unfold yfs
  rw [yR_nat h1]
  rcases h with h | ⟨h, h'⟩
  · rw [h, if_neg (by decide)]; exact y_1 hp
  · rw [h, if_pos rfl, h']; exact y_1 hp
theorem y_n {p : Nat} {L : yT} (hp : zpr p) (h : yLine p L) : ¬ yE p (yn L) 0 := by
  intro g
  obtain ⟨g1, g2⟩ := y_sq2 hp g
  obtain ⟨_, h⟩ := h
  rcases h with h | ⟨h, h'⟩
  · rw [h] at g1; exact y_1 hp g1
  · rw [h'] at g2; exact y_1 hp g2
theorem yLn_line {p : Nat} {a b c : Int} {L : yT} (hp : zpr p) (h : yLn p a b c = some L) : yLine p L := by
  have h0 := zpr_pos hp
  have h7 := (zpr_lt hp).1
  unfold yLn at h
  by_cases g : yR p (yfs p a b) = 0
  · rw [if_pos g] at h; exact absurd h (by simp)
  · rw [if_neg g] at h
    have h := Option.some.inj h
    subst h
    refine ⟨⟨yR_lt h0, yR_lt h0, yR_lt h0⟩, ?_⟩
    have gi := y_inv hp (fun k => g ((yR_0 h0).mpr k))
    have one : yR p 1 = 1 := yR_nat (n := 1) (by omega)
    show yR p (a * yV p (yfs p a b)) = 1 ∨ yR p (a * yV p (yfs p a b)) = 0 ∧ yR p (b * yV p (yfs p a b)) = 1
    unfold yfs at gi ⊢
    by_cases ga : yR p a = 0
    · rw [if_pos ga] at gi ⊢
      refine Or.inr ⟨?_, ?_⟩
      · have : yE p (a * yV p b) (0 * yV p b) := yE_mul ((yR_0 h0).mp ga) yE_refl
        rw [Int.zero_mul] at this
        exact (yR_0 h0).mpr this
      · rw [yR_E gi, one]
    · rw [if_neg ga] at gi ⊢
      exact Or.inl (by rw [yR_E gi, one])
/-- on a line, on a circle -/
def yon (p : Nat) (L : yT) (x y : Int) : Prop := yE p ((L.1 : Int) * x + (L.2.1 : Int) * y + L.2.2) 0
def yoc (p : Nat) (K : yT) (x y : Int) : Prop := yE p ((x - K.1) * (x - K.1) + (y - K.2.1) * (y - K.2.1)) K.2.2
theorem yon_E {p : Nat} {L : yT} {x y x' y' : Int} (hx : yE p x x') (hy : yE p y y') (h : yon p L x y) : yon p L x' y' := yE_trans (yE_symm (yE_add (yE_add (yE_mul yE_refl hx) (yE_mul yE_refl hy)) yE_refl)) h
theorem yoc_E {p : Nat} {K : yT} {x y x' y' : Int} (hx : yE p x x') (hy : yE p y y') (h : yoc p K x y) : yoc p K x' y' := yE_trans (yE_symm (yE_add (yE_mul (yE_sub hx yE_refl) (yE_sub hx yE_refl)) (yE_mul (yE_sub hy yE_refl) (yE_sub hy yE_refl)))) h
theorem y_P_on {p : Nat} {L K : yT} {r : Int} (hp : zpr p) (hL : yLine p L) : yon p L (yPx p L K r) (yPy p L K r) := by
  have h0 := zpr_pos hp
  obtain ⟨k3, hw⟩ := y_inv hp (y_n hp hL)
  refine yon_E (yE_symm (yE_R h0)) (yE_symm (yE_R h0)) ⟨-(ye L K * k3), ?_⟩
  unfold yn at hw ⊢
  unfold ye
  generalize yV p ((L.1 : Int) * L.1 + (L.2.1 : Int) * L.2.1) = w at hw ⊢
  generalize (L.1 : Int) = a at hw ⊢
  generalize (L.2.1 : Int) = b at hw ⊢
  grind
theorem y_P_oc {p : Nat} {L K : yT} {r : Int} (hp : zpr p) (hL : yLine p L) (hr : yE p (r * r) (yds L K)) : yoc p K (yPx p L K r) (yPy p L K r) := by
  have h0 := zpr_pos hp
  obtain ⟨k3, hw⟩ := y_inv hp (y_n hp hL)
  obtain ⟨k5, hr⟩ := hr
  refine yoc_E (yE_symm (yE_R h0)) (yE_symm (yE_R h0)) ⟨2 * K.2.2 * k3 + K.2.2 * p * k3 * k3 + k5 * yn L * yV p (yn L) * yV p (yn L), ?_⟩
  unfold yds at hr
  have hn : yn L = (L.1 : Int) * L.1 + (L.2.1 : Int) * L.2.1 := rfl
  generalize yV p (yn L) = w at hw ⊢
  generalize yn L = n at hn hw hr ⊢
  generalize ye L K = e at hr ⊢
  generalize (L.1 : Int) = a at hn ⊢
  generalize (L.2.1 : Int) = b at hn ⊢
  generalize (K.1 : Int) = u
  generalize (K.2.1 : Int) = v
  generalize (K.2.2 : Int) = s at hr ⊢
  have e1 : (u + (-a * e - b * r) * w - u) * (u + (-a * e - b * r) * w - u) + (v + (-b * e + a * r) * w - v) * (v + (-b * e + a * r) * w - v) = (a * a + b * b) * (e * e + r * r) * (w * w) := by grind
  have e2 : n * (e * e + r * r) * (w * w) = s * (n * w) * (n * w) + p * k5 * n * w * w := by grind
  rw [e1, ← hn, e2, hw]
  grind
/-- a place of both is one of the two -/
theorem y_two {p : Nat} {L K : yT} {x y : Nat} (hp : zpr p) (hL : yLine p L) (hx : x < p) (hy : y < p) (h1 : yon p L x y) (h2 : yoc p K x y) : ∃ r, yrt p (yR p (yds L K)) = some r ∧ (x = yPx p L K r ∧ y = yPy p L K r ∨ x = yPx p L K (-r) ∧ y = yPy p L K (-r)) := by
  have h0 := zpr_pos hp
  obtain ⟨k3, hw⟩ := y_inv hp (y_n hp hL)
  obtain ⟨k6, h6⟩ := h1
  obtain ⟨k7, h7⟩ := h2
  have he : ye L K = p * k6 - ((L.1 : Int) * (x - K.1) + (L.2.1 : Int) * (y - K.2.1)) := by unfold ye; grind
  have hn : yn L = (L.1 : Int) * L.1 + (L.2.1 : Int) * L.2.1 := rfl
  have hds : yds L K = (K.2.2 : Int) * yn L - ye L K * ye L K := rfl
  have hk : yE p (((L.1 : Int) * (y - K.2.1) - (L.2.1 : Int) * (x - K.1)) * ((L.1 : Int) * (y - K.2.1) - (L.2.1 : Int) * (x - K.1))) (yds L K) := by
    refine ⟨yn L * k7 - p * k6 * k6 + 2 * ye L K * k6 + 2 * 0, ?_⟩
    rw [hds]
    generalize ye L K = e at he ⊢
    generalize yn L = n at hn ⊢
    generalize (x : Int) - K.1 = dx at he h7 ⊢
    generalize (y : Int) - K.2.1 = dy at he h7 ⊢
    generalize (L.1 : Int) = a at he hn ⊢
    generalize (L.2.1 : Int) = b at he hn ⊢
    generalize (K.2.2 : Int) = s at h7 ⊢
    have e1 : (a * dy - b * dx) * (a * dy - b * dx) = (a * a + b * b) * (dx * dx + dy * dy) - (a * dx + b * dy) * (a * dx + b * dy) := by grind
    have e2 : a * dx + b * dy = p * k6 - e := by omega
    rw [e1, ← hn, h7, e2]
    grind
  cases hrt : yrt p (yR p (yds L K)) with
  | none => exact absurd (yE_trans hk (yE_symm (yE_R h0))) (yrt_none hp (yR_lt h0) hrt)
  | some r =>
    refine ⟨r, rfl, ?_⟩
    obtain ⟨hr1, hr2⟩ := yrt_some hp hrt
    have hr3 := yE_trans hr2 (yE_R h0)
    have hkr := yE_sub hk hr3
    have hkr' : yE p ((((L.1 : Int) * (y - K.2.1) - (L.2.1 : Int) * (x - K.1)) - r) * (((L.1 : Int) * (y - K.2.1) - (L.2.1 : Int) * (x - K.1)) + r)) 0 := by
      refine yE_trans (yE_eq ?_) (yE_trans hkr (yE_eq (Int.sub_self _)))
      grind
    have main : ∀ q k8 : Int, q = ((L.1 : Int) * (y - K.2.1) - (L.2.1 : Int) * (x - K.1)) - p * k8 → x = yPx p L K q ∧ y = yPy p L K q := by
      intro q k8 hq
      have hX : yE p (K.1 + (-(L.1 : Int) * ye L K - (L.2.1 : Int) * q) * yV p (yn L)) x := by
        refine ⟨k3 * (x - K.1) + yV p (yn L) * ((L.2.1 : Int) * k8 - (L.1 : Int) * k6), ?_⟩
        have hx' : (x : Int) = K.1 + (x - K.1) := by omega
        generalize yV p (yn L) = w at hw ⊢
        generalize yn L = n at hn hw
        generalize ye L K = e at he ⊢
        rw [hx']
        generalize (x : Int) - K.1 = dx at he hq ⊢
        generalize (y : Int) - K.2.1 = dy at he hq ⊢
        generalize (L.1 : Int) = a at he hn hq ⊢
        generalize (L.2.1 : Int) = b at he hn hq ⊢
        have e1 : -a * e - b * q = n * dx + p * (b * k8 - a * k6) := by grind
        rw [e1]
        grind
      have hY : yE p (K.2.1 + (-(L.2.1 : Int) * ye L K + (L.1 : Int) * q) * yV p (yn L)) y := by
        refine ⟨k3 * (y - K.2.1) + yV p (yn L) * (-(L.2.1 : Int) * k6 - (L.1 : Int) * k8), ?_⟩
        have hy' : (y : Int) = K.2.1 + (y - K.2.1) := by omega
        generalize yV p (yn L) = w at hw ⊢
        generalize yn L = n at hn hw
        generalize ye L K = e at he ⊢
        rw [hy']
        generalize (x : Int) - K.1 = dx at he hq ⊢
        generalize (y : Int) - K.2.1 = dy at he hq ⊢
        generalize (L.1 : Int) = a at he hn hq ⊢
        generalize (L.2.1 : Int) = b at he hn hq ⊢
        have e1 : -b * e + a * q = n * dy + p * (-b * k6 - a * k8) := by grind
        rw [e1]
        grind
      refine ⟨?_, ?_⟩
      · have := yR_E hX; rw [yR_nat hx] at this; exact this.symm
      · have := yR_E hY; rw [yR_nat hy] at this; exact this.symm
    rcases y_prime hp hkr' with ⟨k8, g⟩ | ⟨k8, g⟩
    · exact Or.inl (main r k8 (by omega))
    · exact Or.inr (main (-r) k8 (by omega))
theorem yP_lt {p : Nat} {L K : yT} {r : Int} (hp : zpr p) : yPx p L K r < p ∧ yPy p L K r < p := ⟨yR_lt (zpr_pos hp), yR_lt (zpr_pos hp)⟩

