/-! ===== what the law asks, in numbers ===== -/
theorem nI_mulN {a b : Nat} : nI a * nI b = nI (a * b) := (Int32.ofNat_mul a b).symm
theorem nI_nmB {j : Nat} (hj : j < 2147483648) : ¬ nI j = -1 := fun g => by
  have := nI_pos' (n := j) hj
  rw [g] at this
  exact absurd this (by decide)
section MTH
variable {p m : Nat} {P : yP} {t : yTo}
/-- what lacks a parent lacks -/
theorem y_lack {o k q : Nat} (hP : yPa m P) (ho : o < m) (hk : k < 3) (hq : P.2 o k = some q) (h : yval p P t q = none) : yval p P t o = none := by
  rw [yval_st hP ho]
  have e : ypv (yval p P t) (P.2 o k) = none := by rw [hq]; exact h
  unfold yst
  have : k = 0 ∨ k = 1 ∨ k = 2 := by omega
  rcases this with rfl | rfl | rfl
  · rw [e]
  · rw [e]
    cases ypv (yval p P t) (P.2 o 0) <;> rfl
  · rw [e]
    cases ypv (yval p P t) (P.2 o 0) with
    | none => rfl
    | some A => cases ypv (yval p P t) (P.2 o 1) <;> rfl
/-- a place is on a figure -/
def yInF (p : Nat) (s : Int32) (A : yT) (x y : Nat) : Prop := if s = 1 then yon p A x y else yoc p A x y
theorem yF5_both {first : Prop} {A B R : yT} (hp : zpr p) (h : yF5 p first A B = some R) : yoc p A R.1 R.2.1 ∧ yoc p B R.1 R.2.1 := by
  unfold yF5 at h
  cases hL : ych p A B with
  | none => rw [hL] at h; exact absurd h (by simp)
  | some L =>
    rw [hL] at h
    have lL := yLn_line hp hL
    have hr := h
    have h : yLC p first L A = some R := h
    have on : yon p L R.1 R.2.1 ∧ yoc p A R.1 R.2.1 := by
      unfold yLC at h
      cases hq : yrt p (yR p (yds L A)) with
      | none => rw [hq] at h; exact absurd h (by simp)
      | some r =>
        rw [hq] at h
        have h := Option.some.inj h
        obtain ⟨_, hr2⟩ := yrt_some hp hq
        have hr3 := yE_trans hr2 (yE_R (zpr_pos hp))
        have hr4 : yE p (-(r : Int) * -(r : Int)) (yds L A) := by
          have e : (-(r : Int) * -(r : Int)) = (r : Int) * r := by rw [Int.neg_mul_neg]
          rw [e]; exact hr3
        rw [← h]
        unfold ypick
        split
        · exact ⟨y_P_on hp lL, y_P_oc hp lL hr3⟩
        · exact ⟨y_P_on hp lL, y_P_oc hp lL hr4⟩
    refine ⟨on.2, ?_⟩
    obtain ⟨f, hf, e1, e2, e3⟩ := yLn_some hp hL
    obtain ⟨o1, o2⟩ := on
    have h0 : yE p (ybA A B * R.1 + ybB A B * R.2.1 + (ybC A B - A.2.2 + B.2.2)) 0 := by
      refine (y_prime hp ?_).elim id (fun g => absurd g hf)
      have e4 : (ybA A B * R.1 + ybB A B * R.2.1 + (ybC A B - A.2.2 + B.2.2)) * f = ybA A B * f * R.1 + ybB A B * f * R.2.1 + (ybC A B - A.2.2 + B.2.2) * f := by grind
      rw [e4]
      exact yE_trans (yE_symm (yE_add (yE_add (yE_mul e1 yE_refl) (yE_mul e2 yE_refl)) e3)) o1
    unfold yoc at o2 ⊢
    unfold ybA ybB ybC at h0
    obtain ⟨k1, h1⟩ := o2
    obtain ⟨k2, h2⟩ := h0
    refine ⟨k1 - k2, ?_⟩
    grind
theorem yLC_both {first : Prop} {L A R : yT} (hp : zpr p) (lL : yLine p L) (h : yLC p first L A = some R) : yon p L R.1 R.2.1 ∧ yoc p A R.1 R.2.1 := by
  unfold yLC at h
  cases hq : yrt p (yR p (yds L A)) with
  | none => rw [hq] at h; exact absurd h (by simp)
  | some r =>
    rw [hq] at h
    have h := Option.some.inj h
    obtain ⟨_, hr2⟩ := yrt_some hp hq
    have hr3 := yE_trans hr2 (yE_R (zpr_pos hp))
    have hr4 : yE p (-(r : Int) * -(r : Int)) (yds L A) := by
      have e : (-(r : Int) * -(r : Int)) = (r : Int) * r := by rw [Int.neg_mul_neg]
      rw [e]; exact hr3
    rw [← h]
    unfold ypick
    split
    · exact ⟨y_P_on hp lL, y_P_oc hp lL hr3⟩
    · exact ⟨y_P_on hp lL, y_P_oc hp lL hr4⟩
theorem yF2_both {A B R : yT} (hp : zpr p) (h : yF2 p A B = some R) : yon p A R.1 R.2.1 ∧ yon p B R.1 R.2.1 := by
  have h0 := zpr_pos hp
  unfold yF2 at h
  split at h
  · exact absurd h (by simp)
  · rename_i hd
    have h := Option.some.inj h
    obtain ⟨i1, i2⟩ := y_I_on (A := A) (B := B) hp (fun g => hd ((yR_0 h0).mpr g))
    rw [← h]
    exact ⟨yon_E (yE_symm (yE_R h0)) (yE_symm (yE_R h0)) i1, yon_E (yE_symm (yE_R h0)) (yE_symm (yE_R h0)) i2⟩
/-- an intersection lies on both of its parents -/
theorem y_both {o : Nat} {R : yT} (hp : zpr p) (hP : yPok m P) (hSr : ySr m P) (ho : o < m) (h2 : 2 ≤ P.1 o) (h6 : P.1 o ≤ 6) (hR : yval p P t o = some R) :
    ∃ a b A B, P.2 o 0 = some a ∧ P.2 o 1 = some b ∧ a < o ∧ b < o ∧ yval p P t a = some A ∧ yval p P t b = some B ∧ yOk p A ∧ yOk p B ∧ zsort (nI (P.1 a)) ≠ 0 ∧ zsort (nI (P.1 b)) ≠ 0 ∧ yInF p (zsort (nI (P.1 a))) A R.1 R.2.1 ∧ yInF p (zsort (nI (P.1 b))) B R.1 R.2.1 := by
  have hy : ywyB (P.1 o) = true := by
    have : P.1 o = 2 ∨ P.1 o = 3 ∨ P.1 o = 4 ∨ P.1 o = 5 ∨ P.1 o = 6 := by omega
    rcases this with g | g | g | g | g <;> rw [g] <;> decide
  obtain ⟨a, b, qa, qb, la, lb, sa, sb⟩ := hSr o ho hy
  rw [yval_st (yPok_a hP) ho] at hR
  unfold yst at hR
  rw [qa, qb] at hR
  cases hA : yval p P t a with
  | none => simp only [ypv, hA] at hR; exact absurd hR (by simp)
  | some A =>
    cases hB : yval p P t b with
    | none => simp only [ypv, hA, hB] at hR; exact absurd hR (by simp)
    | some B =>
      cases hC : ypv (yval p P t) (P.2 o 2) with
      | none => simp only [ypv, hA, hB] at hR hC; rw [hC] at hR; exact absurd hR (by simp)
      | some C =>
        have hR : yF p (P.1 o) (t o).1 (t o).2 A B C = some R := by simp only [ypv, hA, hB] at hR hC; rw [hC] at hR; exact hR
        have fA := yval_ok hp hP (by omega) hA
        have fB := yval_ok hp hP (by omega) hB
        refine ⟨a, b, A, B, qa, qb, la, lb, hA, hB, fA.1, fB.1, ?_⟩
        rw [sa, sb]
        have : P.1 o = 2 ∨ P.1 o = 3 ∨ P.1 o = 4 ∨ P.1 o = 5 ∨ P.1 o = 6 := by omega
        rcases this with g | g | g | g | g <;> rw [g] at hR sa sb ⊢
        · have e1 : zent 0 (3 * nI 2) = 1 := by decide
          have e2 : zent 0 (3 * nI 2 + 1) = 1 := by decide
          rw [e1, e2]
          have h := yF2_both hp (show yF2 p A B = some R from hR)
          exact ⟨by decide, by decide, h.1, h.2⟩
        · have e1 : zent 0 (3 * nI 3) = 1 := by decide
          have e2 : zent 0 (3 * nI 3 + 1) = 2 := by decide
          rw [e1] at sa
          rw [e1, e2]
          have lA := fA.2 ((zsort_1 (hP a (by omega)).1).mp sa).1 ((zsort_1 (hP a (by omega)).1).mp sa).2
          have h := yLC_both hp lA (show yLC p True A B = some R from hR)
          exact ⟨by decide, by decide, h.1, h.2⟩
        · have e1 : zent 0 (3 * nI 4) = 1 := by decide
          have e2 : zent 0 (3 * nI 4 + 1) = 2 := by decide
          rw [e1] at sa
          rw [e1, e2]
          have lA := fA.2 ((zsort_1 (hP a (by omega)).1).mp sa).1 ((zsort_1 (hP a (by omega)).1).mp sa).2
          have h := yLC_both hp lA (show yLC p False A B = some R from hR)
          exact ⟨by decide, by decide, h.1, h.2⟩
        · have e1 : zent 0 (3 * nI 5) = 2 := by decide
          have e2 : zent 0 (3 * nI 5 + 1) = 2 := by decide
          rw [e1, e2]
          have h := yF5_both hp (show yF5 p True A B = some R from hR)
          exact ⟨by decide, by decide, h.1, h.2⟩
        · have e1 : zent 0 (3 * nI 6) = 2 := by decide
          have e2 : zent 0 (3 * nI 6 + 1) = 2 := by decide
          rw [e1, e2]
          have h := yF5_both hp (show yF5 p False A B = some R from hR)
          exact ⟨by decide, by decide, h.1, h.2⟩
/-- what has says of it -/
theorem zhs_in {s : Int32} {A : yT} {x y : Nat} (hp : zpr p) (oA : yOk p A) (hx : x < p) (hy : y < p) (s0 : s ≠ 0) (h : yInF p s A x y) : zhs (nI p) (nI A.1) (nI A.2.1) (nI A.2.2) s (nI x) (nI y) := by
  have hl := zpr_lt hp
  obtain ⟨o1, o2, o3⟩ := oA
  unfold yInF at h
  unfold zhs
  rw [if_neg s0]
  have b1 := yB_n (n := A.1) (by omega)
  have b2 := yB_n (n := A.2.1) (by omega)
  have b3 := yB_n (n := A.2.2) (by omega)
  have bx := yB_n (n := x) (by omega)
  have by' := yB_n (n := y) (by omega)
  by_cases g : s = 1
  · rw [if_pos g] at h ⊢
    have hb := yB_add (yB_add (yB_mul b1 bx (by decide)) (yB_mul b2 by' (by decide)) (by decide)) b3 (by decide)
    have e := zmd_B hp hb (by
      have n1 : (0 : Int) ≤ (A.1 : Int) * x := Int.mul_nonneg (by omega) (by omega)
      have n2 : (0 : Int) ≤ (A.2.1 : Int) * y := Int.mul_nonneg (by omega) (by omega)
      omega)
    unfold zmd at e
    rw [e]
    have : yR p ((A.1 : Int) * x + (A.2.1 : Int) * y + A.2.2) = 0 := (yR_0 (zpr_pos hp)).mpr h
    rw [this]; rfl
  · rw [if_neg g] at h ⊢
    have hb := yB_add (yB_mul (yB_sub bx b1 (by decide)) (yB_sub bx b1 (by decide)) (by decide)) (yB_mul (yB_sub by' b2 (by decide)) (yB_sub by' b2 (by decide)) (by decide)) (by decide)
    have e := zmd_B hp hb (by
      have n1 : (0 : Int) ≤ ((x : Int) - A.1) * ((x : Int) - A.1) := by
        rcases Int.le_total 0 ((x : Int) - A.1) with g | g
        · exact Int.mul_nonneg g g
        · exact Int.mul_nonneg_of_nonpos_of_nonpos g g
      have n2 : (0 : Int) ≤ ((y : Int) - A.2.1) * ((y : Int) - A.2.1) := by
        rcases Int.le_total 0 ((y : Int) - A.2.1) with g | g
        · exact Int.mul_nonneg g g
        · exact Int.mul_nonneg_of_nonpos_of_nonpos g g
      omega)
    unfold zmd at e
    rw [e]
    have := yR_E h
    rw [yR_nat o3] at this
    rw [this]
/-! where a point goes to -/
theorem ytr_sum {V : Nat → Option yT} : ∀ n, (ytr V n).1 + (ytr V n).2.2 ≤ n ∧ ((ytr V n).1 = 0 → (ytr V n).2.2 = n)
  | 0 => ⟨Nat.le_refl 0, fun _ => rfl⟩
  | n + 1 => by
    obtain ⟨h1, h2⟩ := ytr_sum (V := V) n
    rw [ytr]
    cases V n with
    | none => exact ⟨by show (ytr V n).1 + ((ytr V n).2.2 + 1) ≤ n + 1; omega, fun g => by show (ytr V n).2.2 + 1 = n + 1; rw [h2 g]⟩
    | some A =>
      by_cases g : yknown A (ytr V n)
      · rw [ytk_some.1 g]
        obtain ⟨j, hj, _⟩ := g
        exact ⟨by omega, fun q => by omega⟩
      · rw [ytk_some.2 g]
        exact ⟨by show (ytr V n).1 + 1 + (ytr V n).2.2 ≤ n + 1; omega, fun q => by have q : (ytr V n).1 + 1 = 0 := q; omega⟩
theorem yshape_0 {s : yTl} : yshape p s = 0 ↔ s.1 < 3 := by
  unfold yshape
  by_cases h : s.1 ≤ 2
  · rw [if_pos h]
    exact ⟨fun _ => by omega, fun _ => rfl⟩
  · rw [if_neg h]
    refine ⟨fun g => ?_, fun g => by omega⟩
    exfalso
    split at g
    · exact absurd g (by decide)
    · split at g <;> exact absurd g (by decide)
theorem zsum_nI {f : Nat → Int32} {B : Nat} : ∀ n, (∀ j, j < n → ∃ a, a ≤ B ∧ f j = nI a) → ∃ a, a ≤ n * B ∧ zsum f n = nI a
  | 0, _ => ⟨0, Nat.zero_le _, rfl⟩
  | n + 1, h => by
    obtain ⟨a, ha, ea⟩ := zsum_nI n (fun j hj => h j (by omega))
    obtain ⟨b, hb, eb⟩ := h n (by omega)
    refine ⟨a + b, ?_, ?_⟩
    · rw [Nat.succ_mul]; omega
    · rw [zsum, ea, eb]; exact nI_add a b
theorem ysum_pos {s : yTl} (hp : zpr p) (hn : s.1 ≤ 43) (hl : ∀ j, j < s.1 → (s.2.1 j).1 < p ∧ (s.2.1 j).2 < p) : ¬ zsum (fun j => nI p * nI (s.2.1 j).1 + nI (s.2.1 j).2) s.1 < 0 := by
  have h43 := zpr_lt hp
  obtain ⟨a, ha, e⟩ := zsum_nI (f := fun j => nI p * nI (s.2.1 j).1 + nI (s.2.1 j).2) (B := 2000) s.1 (fun j hj => by
    obtain ⟨h1, h2⟩ := hl j hj
    refine ⟨p * (s.2.1 j).1 + (s.2.1 j).2, ?_, ?_⟩
    · have : p * (s.2.1 j).1 ≤ 43 * 43 := Nat.mul_le_mul (by omega) (by omega)
      omega
    · show nI p * nI (s.2.1 j).1 + nI (s.2.1 j).2 = _
      rw [nI_mulN, nI_add])
  rw [e]
  have : s.1 * 2000 ≤ 43 * 2000 := Nat.mul_le_mul hn (Nat.le_refl _)
  exact nI_pos (by omega)
/-! all places of a point -/
def yEv (V : Nat → Int32) (n : Nat) (t : Int32 × Int32 × Int32) : Prop := ∃ H F, t.1 = nI H ∧ t.2.1 = nI F ∧ H + F ≤ n ∧ (F = 0 ∧ t.2.2 = -1 ∨ 0 < F ∧ ∃ i, i < n ∧ t.2.2 = nI i ∧ V i = 0 ∧ ∀ j, j < i → V j ≠ 0) ∧ (∀ i, i < n → V i = 1 → 0 < H) ∧ (∀ i, i < n → V i = 0 → 0 < F)
theorem yEv_step {V : Nat → Nat → Int32} {x y : Nat} {t : Int32 × Int32 × Int32} (hp : 0 < p) (hpb : p ≤ 43) (hy : y < p) (hx : x < p) (h : yEv (fun i => V (i / p) (i % p)) (p * x + y) t) : yEv (fun i => V (i / p) (i % p)) (p * x + y + 1) (zes p x y (V x y) t) := by
  have ed : (p * x + y) / p = x := by
    rw [Nat.mul_add_div hp, Nat.div_eq_of_lt hy]; rfl
  have em : (p * x + y) % p = y := by rw [Nat.mul_add_mod, Nat.mod_eq_of_lt hy]
  have eV : (fun i => V (i / p) (i % p)) (p * x + y) = V x y := by show V _ _ = _; rw [ed, em]
  have hb : p * x ≤ 43 * 43 := Nat.mul_le_mul hpb (by omega)
  generalize hVg : (fun i => V (i / p) (i % p)) = W at h eV ⊢
  generalize hn : p * x + y = n at h eV ⊢
  obtain ⟨H, F, e1, e2, hs, hf, h1, h0⟩ := h
  unfold zes
  by_cases g1 : V x y = 1
  · rw [if_pos g1]
    refine ⟨H + 1, F, by show t.1 + 1 = _; rw [e1, nI_succ], e2, by omega, ?_, fun i hi _ => by omega, fun i hi hv => ?_⟩
    · rcases hf with hf | ⟨hf, i, hi, q⟩
      · exact Or.inl hf
      · exact Or.inr ⟨hf, i, by omega, q⟩
    · rcases Nat.eq_or_lt_of_le (Nat.le_of_lt_succ hi) with g | g
      · rw [g, eV, g1] at hv
        exact absurd hv (by decide)
      · exact h0 i g hv
  · rw [if_neg g1]
    by_cases g0 : V x y = 0
    · rw [if_pos g0]
      refine ⟨H, F + 1, e1, by show t.2.1 + 1 = _; rw [e2, nI_succ], by omega, Or.inr ⟨by omega, ?_⟩, fun i hi hv => ?_, fun i hi _ => by omega⟩
      · rcases hf with ⟨hF, hm1⟩ | ⟨hF, i, hi, ei, q⟩
        · refine ⟨n, by omega, ?_, by rw [eV, g0], fun j hj hv => ?_⟩
          · show (if t.2.2 = -1 then nI p * nI x + nI y else t.2.2) = _
            rw [if_pos hm1, nI_mulN, nI_add, hn]
          · have := h0 j hj hv
            omega
        · refine ⟨i, by omega, ?_, q⟩
          show (if t.2.2 = -1 then nI p * nI x + nI y else t.2.2) = _
          rw [if_neg (by rw [ei]; exact nI_nmB (by omega)), ei]
      · rcases Nat.eq_or_lt_of_le (Nat.le_of_lt_succ hi) with g | g
        · rw [g, eV, g0] at hv
          exact absurd hv (by decide)
        · exact h1 i g hv
    · rw [if_neg g0]
      refine ⟨H, F, e1, e2, by omega, ?_, fun i hi hv => ?_, fun i hi hv => ?_⟩
      · rcases hf with hf | ⟨hf, i, hi, q⟩
        · exact Or.inl hf
        · exact Or.inr ⟨hf, i, by omega, q⟩
      · rcases Nat.eq_or_lt_of_le (Nat.le_of_lt_succ hi) with g | g
        · rw [g, eV] at hv
          exact absurd hv g1
        · exact h1 i g hv
      · rcases Nat.eq_or_lt_of_le (Nat.le_of_lt_succ hi) with g | g
        · rw [g, eV] at hv
          exact absurd hv g0
        · exact h0 i g hv
theorem yEv_y {V : Nat → Nat → Int32} {x : Nat} (hp : 0 < p) (hpb : p ≤ 43) (hx : x < p) : ∀ d y (t : Int32 × Int32 × Int32), y + d = p → yEv (fun i => V (i / p) (i % p)) (p * x + y) t → yEv (fun i => V (i / p) (i % p)) (p * x + p) (zey V p x d y t) := by
  intro d
  induction d with
  | zero =>
    intro y t hy h
    have hy : y = p := by omega
    rw [hy] at h
    exact h
  | succ d ih =>
    intro y t hy h
    rw [zey]
    exact ih (y + 1) _ (by omega) (yEv_step hp hpb (by omega) hx h)
theorem yEv_x {V : Nat → Nat → Int32} (hp : 0 < p) (hpb : p ≤ 43) : ∀ d x (t : Int32 × Int32 × Int32), x + d = p → yEv (fun i => V (i / p) (i % p)) (p * x) t → yEv (fun i => V (i / p) (i % p)) (p * p) (zex V p d x t) := by
  intro d
  induction d with
  | zero =>
    intro x t hx h
    have hx : x = p := by omega
    rw [hx] at h
    exact h
  | succ d ih =>
    intro x t hx h
    rw [zex]
    refine ih (x + 1) _ (by omega) ?_
    have := yEv_y (V := V) hp hpb (show x < p by omega) p 0 t (by omega) h
    rw [show p * (x + 1) = p * x + p from Nat.mul_succ p x]
    exact this
theorem yEv_all {V : Nat → Nat → Int32} (hp : zpr p) : yEv (fun i => V (i / p) (i % p)) (p * p) (zex V p p 0 (0, 0, -1)) := by
  have h := zpr_lt hp
  refine yEv_x (zpr_pos hp) h.2 p 0 _ (by omega) ⟨0, 0, rfl, rfl, Nat.zero_le _, Or.inl ⟨rfl, rfl⟩, fun i hi => ?_, fun i hi => ?_⟩
  · rw [Nat.mul_zero] at hi; omega
  · rw [Nat.mul_zero] at hi; omega
end MTH
/-! the part of claims that hold -/
theorem ztr_ok : ∀ h j : Fin 3, j.1 < h.1 ∨ ((0 : Int32) ≤ Op.cmpValue (FP.dcmp (zquo (nI h.1) (nI j.1)) 0) .l ∧ ¬ (0 : Int32) < Op.cmpValue (FP.dcmp (zquo (nI h.1) (nI j.1)) 0x3ff0000000000000) .g) := by
  have e : ∀ h j : Fin 3, zquo (nI h.1) (nI j.1) = if nI j.1 = 0 then 0x3ff0000000000000 else FP.ddiv (FP.i2d (nI h.1)) (FP.i2d (nI j.1)) := fun h j => rfl
  intro h j
  rw [e h j]
  revert h j
  decide +kernel
