/-! ===== the state, in numbers ===== -/
/-- objects: their ways and parents -/
abbrev yP := (Nat → Nat) × (Nat → Nat → Option Nat)
/-- what points are told -/
abbrev yTo := Nat → Nat × Nat
def ypv (v : Nat → Option yT) (q : Option Nat) : Option yT := match q with
  | none => some (0, 0, 0)
  | some q => v q
noncomputable def yst (p : Nat) (P : yP) (t : yTo) (v : Nat → Option yT) (j : Nat) : Option yT := match ypv v (P.2 j 0), ypv v (P.2 j 1), ypv v (P.2 j 2) with
  | some A, some B, some C => yF p (P.1 j) (t j).1 (t j).2 A B C
  | _, _, _ => none
noncomputable def yvl (p : Nat) (P : yP) (t : yTo) : Nat → (Nat → Option yT)
  | 0 => fun _ => none
  | n + 1 => fun j => if j = n then yst p P t (yvl p P t n) n else yvl p P t n j
noncomputable def yval (p : Nat) (P : yP) (t : yTo) (j : Nat) : Option yT := yvl p P t (j + 1) j
theorem yvl_eq {p : Nat} {P : yP} {t : yTo} {j : Nat} : ∀ n, j < n → yvl p P t n j = yval p P t j := by
  intro n
  induction n with
  | zero => intro h; omega
  | succ n ih =>
    intro h
    rcases Nat.eq_or_lt_of_le (Nat.le_of_lt_succ h) with g | g
    · subst g; rfl
    · rw [yvl]
      dsimp only
      rw [if_neg (by omega)]
      exact ih g
/-- parents come ahead -/
def yPa (m : Nat) (P : yP) : Prop := ∀ j, j < m → ∀ k, k < 3 → ∀ q, P.2 j k = some q → q < j
theorem ypv_eq {v v' : Nat → Option yT} {q : Option Nat} (h : ∀ n, q = some n → v n = v' n) : ypv v q = ypv v' q := by
  cases q with
  | none => rfl
  | some n => exact h n rfl
theorem yst_eq {p : Nat} {P : yP} {t t' : yTo} {v v' : Nat → Option yT} {j : Nat} (ht : t j = t' j) (h : ∀ k, k < 3 → ∀ q, P.2 j k = some q → v q = v' q) : yst p P t v j = yst p P t' v' j := by
  unfold yst
  rw [ypv_eq (h 0 (by decide)), ypv_eq (h 1 (by decide)), ypv_eq (h 2 (by decide)), ht]
theorem yval_st {p m j : Nat} {P : yP} {t : yTo} (hP : yPa m P) (hj : j < m) : yval p P t j = yst p P t (yval p P t) j := by
  unfold yval
  rw [yvl]
  dsimp only
  rw [if_pos rfl]
  exact yst_eq rfl (fun k hk q hq => yvl_eq j (hP j hj k hk q hq))
/-- what the parents must be -/
def yPok (m : Nat) (P : yP) : Prop := ∀ j, j < m → ywy (P.1 j) ∧
  ((P.1 j = 0 → P.2 j 0 = none) ∧ (P.1 j ≠ 0 → ∃ a, P.2 j 0 = some a ∧ a < j ∧ (P.1 j = 1 ∨ P.1 j = 2 ∨ P.1 j = 3 ∨ P.1 j = 4 → 10 ≤ P.1 a ∧ P.1 a < 20))) ∧
  ((P.1 j < 2 → P.2 j 1 = none) ∧ (2 ≤ P.1 j → ∃ b, P.2 j 1 = some b ∧ b < j ∧ (P.1 j = 2 ∨ P.1 j = 8 ∨ P.1 j = 11 ∨ P.1 j = 12 → 10 ≤ P.1 b ∧ P.1 b < 20))) ∧
  ((P.1 j < 21 → P.2 j 2 = none) ∧ (21 ≤ P.1 j → ∃ c, P.2 j 2 = some c ∧ c < j))
theorem yPok_a {m : Nat} {P : yP} (h : yPok m P) : yPa m P := by
  intro j hj k hk q hq
  obtain ⟨_, ⟨a0, a1⟩, ⟨b0, b1⟩, ⟨c0, c1⟩⟩ := h j hj
  have : k = 0 ∨ k = 1 ∨ k = 2 := by omega
  rcases this with g | g | g <;> subst g
  · by_cases hw : P.1 j = 0
    · rw [a0 hw] at hq; exact absurd hq (by simp)
    · obtain ⟨a, e, l, _⟩ := a1 hw
      rw [e] at hq
      have := Option.some.inj hq
      omega
  · by_cases hw : P.1 j < 2
    · rw [b0 hw] at hq; exact absurd hq (by simp)
    · obtain ⟨a, e, l, _⟩ := b1 (by omega)
      rw [e] at hq
      have := Option.some.inj hq
      omega
  · by_cases hw : P.1 j < 21
    · rw [c0 hw] at hq; exact absurd hq (by simp)
    · obtain ⟨a, e, l⟩ := c1 (by omega)
      rw [e] at hq
      have := Option.some.inj hq
      omega
/-- a value fits its way -/
def yfit (p w : Nat) (A : yT) : Prop := yOk p A ∧ (10 ≤ w → w < 20 → yLine p A)
theorem yLC_ok {p : Nat} {L K A : yT} {first : Prop} (hp : zpr p) (h : yLC p first L K = some A) : yOk p A := by
  have h0 := zpr_pos hp
  unfold yLC at h
  cases hq : yrt p (yR p (yds L K)) with
  | none => rw [hq] at h; exact absurd h (by simp)
  | some r =>
    rw [hq] at h
    have h := Option.some.inj h
    rw [← h]
    unfold ypick
    split
    · exact ⟨yR_lt h0, yR_lt h0, h0⟩
    · exact ⟨yR_lt h0, yR_lt h0, h0⟩
theorem yF_fit {p w : Nat} {x y : Int} {A B C R : yT} (hp : zpr p) (hy : ywy w) (hA : w ≠ 0 → yA p w A) (hB : 2 ≤ w → yBq p w B) (h : yF p w x y A B C = some R) : yfit p w R := by
  have h0 := zpr_pos hp
  have cases : w = 0 ∨ w = 1 ∨ w = 2 ∨ w = 3 ∨ w = 4 ∨ w = 5 ∨ w = 6 ∨ w = 7 ∨ w = 8 ∨ w = 10 ∨ w = 11 ∨ w = 12 ∨ w = 13 ∨ w = 20 ∨ w = 21 ∨ w = 22 := by unfold ywy at hy; omega
  rcases cases with g | g | g | g | g | g | g | g | g | g | g | g | g | g | g | g <;> subst g
  · have h : some (yR p x, yR p y, 0) = some R := h
    rw [← Option.some.inj h]
    exact ⟨⟨yR_lt h0, yR_lt h0, h0⟩, fun q => by omega⟩
  · have h : some (yF1 p x A) = some R := h
    rw [← Option.some.inj h]
    obtain ⟨e1, e2, e3⟩ := yF1_lt (A := A) (t := x) hp
    exact ⟨⟨e1, e2, by rw [e3]; exact h0⟩, fun q => by omega⟩
  · have h : yF2 p A B = some R := h
    unfold yF2 at h
    split at h
    · exact absurd h (by simp)
    · rw [← Option.some.inj h]
      exact ⟨⟨yR_lt h0, yR_lt h0, h0⟩, fun q => by omega⟩
  · exact ⟨yLC_ok hp h, fun q => by omega⟩
  · exact ⟨yLC_ok hp h, fun q => by omega⟩
  · have h : yF5 p True A B = some R := h
    unfold yF5 at h
    cases hc : ych p A B with
    | none => rw [hc] at h; exact absurd h (by simp)
    | some L => rw [hc] at h; exact ⟨yLC_ok hp h, fun q => by omega⟩
  · have h : yF5 p False A B = some R := h
    unfold yF5 at h
    cases hc : ych p A B with
    | none => rw [hc] at h; exact absurd h (by simp)
    | some L => rw [hc] at h; exact ⟨yLC_ok hp h, fun q => by omega⟩
  · have h : some (yF7 p A B) = some R := h
    rw [← Option.some.inj h]
    unfold yF7
    exact ⟨⟨by dsimp only; exact yR_lt h0, by dsimp only; exact yR_lt h0, h0⟩, fun q => by omega⟩
  · have h : some (yF8 p A B) = some R := h
    rw [← Option.some.inj h]
    unfold yF8
    exact ⟨⟨by dsimp only; exact yR_lt h0, by dsimp only; exact yR_lt h0, h0⟩, fun q => by omega⟩
  · have l := yLn_line hp (show yLn p _ _ _ = some R from h)
    exact ⟨l.1, fun _ _ => l⟩
  · have h : some (yF11 p A B) = some R := h
    rw [← Option.some.inj h]
    have l := (hB (by decide)).2 (by omega)
    have ok : yOk p (yF11 p A B) := ⟨l.1.1, l.1.2.1, yR_lt h0⟩
    exact ⟨ok, fun _ _ => ⟨ok, l.2⟩⟩
  · have l := yLn_line hp (show yLn p _ _ _ = some R from h)
    exact ⟨l.1, fun _ _ => l⟩
  · have l := yLn_line hp (show yLn p _ _ _ = some R from h)
    exact ⟨l.1, fun _ _ => l⟩
  · have h : yF21 p A A B = some R := h
    have oA := (hA (by decide)).1
    unfold yF21 at h
    split at h
    · exact absurd h (by simp)
    · rw [← Option.some.inj h]
      exact ⟨⟨oA.1, oA.2.1, yR_lt h0⟩, fun q q' => by omega⟩
  · have h : yF21 p A B C = some R := h
    have oA := (hA (by decide)).1
    unfold yF21 at h
    split at h
    · exact absurd h (by simp)
    · rw [← Option.some.inj h]
      exact ⟨⟨oA.1, oA.2.1, yR_lt h0⟩, fun q q' => by omega⟩
  · have h : yF22 p A B C = some R := h
    unfold yF22 at h
    split at h
    · exact absurd h (by simp)
    · rw [← Option.some.inj h]
      exact ⟨⟨yR_lt h0, yR_lt h0, yR_lt h0⟩, fun q q' => by omega⟩
theorem yst_fit {p m j : Nat} {P : yP} {t : yTo} {v : Nat → Option yT} {R : yT} (hp : zpr p) (hP : yPok m P) (hj : j < m) (hv : ∀ q, q < j → ∀ A, v q = some A → yfit p (P.1 q) A) (h : yst p P t v j = some R) : yfit p (P.1 j) R := by
  obtain ⟨hy, ⟨a0, a1⟩, ⟨b0, b1⟩, _⟩ := hP j hj
  unfold yst at h
  cases hA : ypv v (P.2 j 0) with
  | none => rw [hA] at h; exact absurd h (by simp)
  | some A =>
    cases hB : ypv v (P.2 j 1) with
    | none => rw [hA, hB] at h; exact absurd h (by simp)
    | some B =>
      cases hC : ypv v (P.2 j 2) with
      | none => rw [hA, hB, hC] at h; exact absurd h (by simp)
      | some C =>
        rw [hA, hB, hC] at h
        refine yF_fit hp hy (fun w0 => ?_) (fun w2 => ?_) h
        · obtain ⟨a, ea, la, sa⟩ := a1 w0
          rw [ea] at hA
          obtain ⟨f1, f2⟩ := hv a la A hA
          exact ⟨f1, fun q => f2 (sa q).1 (sa q).2⟩
        · obtain ⟨b, eb, lb, sb⟩ := b1 w2
          rw [eb] at hB
          obtain ⟨f1, f2⟩ := hv b lb B hB
          exact ⟨f1, fun q => f2 (sb q).1 (sb q).2⟩
theorem yval_fit {p m : Nat} {P : yP} {t : yTo} (hp : zpr p) (hP : yPok m P) : ∀ n j, j < n → j < m → ∀ A, yval p P t j = some A → yfit p (P.1 j) A := by
  intro n
  induction n with
  | zero => intro j h; omega
  | succ n ih =>
    intro j h hj A hA
    rw [yval_st (yPok_a hP) hj] at hA
    exact yst_fit hp hP hj (fun q hq B hB => ih q (by omega) (by omega) B hB) hA
theorem yval_ok {p m j : Nat} {P : yP} {t : yTo} {A : yT} (hp : zpr p) (hP : yPok m P) (hj : j < m) (h : yval p P t j = some A) : yfit p (P.1 j) A := yval_fit hp hP (j + 1) j (by omega) hj A h
/-! the class's memory -/
def yq (q : Option Nat) : Int32 := match q with
  | none => -1
  | some q => nI q
def zcv (σ : zMem) (j : Nat) (v : Option yT) : Prop := match v with
  | none => σ 4 j 7 = 1
  | some A => σ 4 j 7 = 0 ∧ zVal σ 4 j A
def zCo (P : yP) (t : yTo) (σ : zMem) (j : Nat) : Prop := σ 4 j 0 = nI j ∧ σ 4 j 1 = nI (P.1 j) ∧ (∀ k, k < 3 → σ 4 j (2 + k) = yq (P.2 j k)) ∧ (P.1 j < 2 → σ 4 j 5 = nI (t j).1) ∧ (P.1 j = 0 → σ 4 j 6 = nI (t j).2)
def zCb (p m : Nat) (P : yP) (t : yTo) (σ : zMem) : Prop := zField σ p ∧ σ 5 0 2 = nI m ∧ (∀ j, j < 43 → σ 4 j 0 = nI j) ∧ (σ 4 43 7 = 0 ∧ σ 4 43 11 = 0) ∧ ∀ j, j < m → zCo P t σ j
/-- told numbers are numbers of the field -/
def yTok (p m : Nat) (P : yP) (t : yTo) : Prop := ∀ j, j < m → (P.1 j < 2 → (t j).1 < p) ∧ (P.1 j = 0 → (t j).2 < p)
theorem zcv_01 {σ : zMem} {j : Nat} {v : Option yT} (h : zcv σ j v) : (σ 4 j 7 = 0 ↔ v ≠ none) ∧ (σ 4 j 7 = 0 ∨ σ 4 j 7 = 1) := by
  have n10 : ¬ (1 : Int32) = 0 := by decide
  cases v with
  | none =>
    have h : σ 4 j 7 = 1 := h
    rw [h]
    exact ⟨⟨fun g => absurd g n10, fun g => absurd rfl g⟩, Or.inr rfl⟩
  | some A => exact ⟨⟨fun _ => by simp, fun _ => h.1⟩, Or.inl h.1⟩
theorem zat_q {σ : zMem} {m : Nat} {q : Option Nat} (hs : σ 5 0 2 = nI m) (hm : m ≤ 43) (h : ∀ n, q = some n → n < m) : zat σ 5 (yq q) = q.getD 43 := by
  cases q with
  | none => exact zat_neg (by decide)
  | some n => exact zat_in hs hm (h n rfl)
/-- a parent, or nobody: what it is -/
theorem zpar_v {p m j k : Nat} {P : yP} {t : yTo} {σ : zMem} {v : Nat → Option yT} (hB : zCb p m P t σ) (hm : m ≤ 43) (hP : yPa m P) (hj : j < m) (hk : k < 3) (hv : ∀ q, P.2 j k = some q → zcv σ q (v q)) : (σ 4 (zat σ 5 (σ 4 j (2 + k))) 7 = 0 ↔ ypv v (P.2 j k) ≠ none) ∧ zat σ 5 (σ 4 j (2 + k)) = (P.2 j k).getD 43 := by
  obtain ⟨_, hs, _, h43, ho⟩ := hB
  have e : zat σ 5 (σ 4 j (2 + k)) = (P.2 j k).getD 43 := by
    rw [(ho j hj).2.2.1 k hk]
    exact zat_q hs hm (fun n hn => by have := hP j hj k hk n hn; omega)
  refine ⟨?_, e⟩
  rw [e]
  cases hq : P.2 j k with
  | none => exact ⟨fun _ => by simp [ypv], fun _ => h43.1⟩
  | some q => exact (zcv_01 (hv q hq)).1
/-- remake makes what the numbers say -/
theorem yc_remake {p m j : Nat} {P : yP} {t : yTo} {σ : zMem} {τ : zTmp} {v : Nat → Option yT} (hp : zpr p) (hP : yPok m P) (hm : m ≤ 43) (hj : j < m) (hB : zCb p m P t σ) (hT : yTok p m P t) (hv : ∀ k, k < 3 → ∀ q, P.2 j k = some q → zcv σ q (v q)) (hf : ∀ k, k < 3 → ∀ q, P.2 j k = some q → ∀ A, v q = some A → yfit p (P.1 q) A) :
    ∃ σ', m_X8_remake [zO 0 0, zO 4 j] (σ, τ) = some (.inl none, (σ', τ)) ∧ zcv σ' j (yst p P t v j) ∧ ∀ k' i' j', ¬ (k' = 4 ∧ i' = j ∧ 7 ≤ j' ∧ j' ≤ 10) → k' ≠ 14 → σ' k' i' j' = σ k' i' j' := by
  have hPa := yPok_a hP
  have h43 := (zpr_lt hp).2
  obtain ⟨hy, ⟨a0, a1⟩, ⟨b0, b1⟩, ⟨c0, c1⟩⟩ := hP j hj
  obtain ⟨p0, e0⟩ := zpar_v hB hm hPa hj (k := 0) (by decide) (hv 0 (by decide))
  obtain ⟨p1, e1⟩ := zpar_v hB hm hPa hj (k := 1) (by decide) (hv 1 (by decide))
  obtain ⟨p2, e2⟩ := zpar_v hB hm hPa hj (k := 2) (by decide) (hv 2 (by decide))
  have hj44 : j < 44 := by omega
  by_cases hl : ypv v (P.2 j 0) = none ∨ ypv v (P.2 j 1) = none ∨ ypv v (P.2 j 2) = none
  · have hz : zpl σ j := by
      rcases hl with h | h | h
      · exact Or.inl (fun g => (p0.mp g) h)
      · exact Or.inr (Or.inl (fun g => (p1.mp g) h))
      · exact Or.inr (Or.inr (fun g => (p2.mp g) h))
    have hn : yst p P t v j = none := by
      unfold yst
      rcases hl with h | h | h
      · rw [h]
      · rw [h]; split <;> first | rfl | (rename_i q; exact absurd q (by simp)) | simp_all
      · rw [h]; split <;> first | rfl | (rename_i q; exact absurd q (by simp)) | simp_all
    refine ⟨_, sp_remake_l hj44 hz, ?_, ?_⟩
    · rw [hn]
      show zup σ 4 j 7 1 4 j 7 = 1
      simp [zup]
    · intro k' i' j' g _
      have : ¬ (k' = 4 ∧ i' = j ∧ j' = 7) := fun q => g ⟨q.1, q.2.1, by omega, by omega⟩
      unfold zup
      by_cases q1 : k' = 4
      · by_cases q2 : i' = j
        · by_cases q3 : j' = 7
          · exact absurd ⟨q1, q2, q3⟩ this
          · simp [q3]
        · simp [q2]
      · simp [q1]
  · have h0 : ypv v (P.2 j 0) ≠ none := fun g => hl (Or.inl g)
    have h1 : ypv v (P.2 j 1) ≠ none := fun g => hl (Or.inr (Or.inl g))
    have h2 : ypv v (P.2 j 2) ≠ none := fun g => hl (Or.inr (Or.inr g))
    have hz : ¬ zpl σ j := fun g => g.elim (fun q => q (p0.mpr h0)) (fun g => g.elim (fun q => q (p1.mpr h1)) (fun q => q (p2.mpr h2)))
    obtain ⟨A, hA⟩ := Option.ne_none_iff_exists'.mp h0
    obtain ⟨B, hBv⟩ := Option.ne_none_iff_exists'.mp h1
    obtain ⟨C, hC⟩ := Option.ne_none_iff_exists'.mp h2
    have hst : yst p P t v j = yF p (P.1 j) (t j).1 (t j).2 A B C := by unfold yst; rw [hA, hBv, hC]
    obtain ⟨hF, hs, hr, h43', ho⟩ := hB
    obtain ⟨_, ow, oq, ox, oy⟩ := ho j hj
    have d := yc_draw (x := (t j).1) (y := (t j).2) (τ := τ) (A := A) (B := B) (C := C) hp hF hj44 (zat_lt (σ := σ) (r := 5) (n := σ 4 j 2)) (zat_lt (σ := σ) (r := 5) (n := σ 4 j 3)) (zat_lt (σ := σ) (r := 5) (n := σ 4 j 4)) ow hy
      (fun g => by rw [ox g]; exact yB_n (by have := (hT j hj).1 g; omega)) (fun g => by rw [oy g]; exact yB_n (by have := (hT j hj).2 g; omega))
      (fun g => by
        obtain ⟨a, ea, la, sa⟩ := a1 g
        rw [show σ 4 j 2 = σ 4 j (2 + 0) from rfl, e0, ea]
        rw [ea] at hA
        have vv := hv 0 (by decide) a ea
        have hA : v a = some A := hA
        rw [hA] at vv
        have ff := hf 0 (by decide) a ea A hA
        exact ⟨vv.2, ff.1, fun q => ff.2 (sa q).1 (sa q).2⟩)
      (fun g => by
        obtain ⟨a, ea, la, sa⟩ := b1 g
        rw [show σ 4 j 3 = σ 4 j (2 + 1) from rfl, e1, ea]
        rw [ea] at hBv
        have vv := hv 1 (by decide) a ea
        have hBv : v a = some B := hBv
        rw [hBv] at vv
        have ff := hf 1 (by decide) a ea B hBv
        exact ⟨vv.2, ff.1, fun q => ff.2 (sa q).1 (sa q).2⟩)
      (fun g => by
        obtain ⟨a, ea, la⟩ := c1 g
        rw [show σ 4 j 4 = σ 4 j (2 + 2) from rfl, e2, ea]
        rw [ea] at hC
        have vv := hv 2 (by decide) a ea
        have hC : v a = some C := hC
        rw [hC] at vv
        exact ⟨vv.2, (hf 2 (by decide) a ea C hC).1⟩)
    rw [hst]
    have keep : ∀ (σ1 : zMem) (x : Int32), ySame σ σ1 4 j → ∀ k' i' j', ¬ (k' = 4 ∧ i' = j ∧ 7 ≤ j' ∧ j' ≤ 10) → k' ≠ 14 → zup σ1 4 j 7 x k' i' j' = σ k' i' j' := by
      intro σ1 x hs1 k' i' j' g g'
      have e : σ1 k' i' j' = σ k' i' j' := hs1 k' i' j' (fun q => g ⟨q.1, q.2.1, by omega, q.2.2.2⟩) g'
      rw [← e]
      have : ¬ (k' = 4 ∧ i' = j ∧ j' = 7) := fun q => g ⟨q.1, q.2.1, by omega, by omega⟩
      unfold zup
      by_cases q1 : k' = 4
      · by_cases q2 : i' = j
        · by_cases q3 : j' = 7
          · exact absurd ⟨q1, q2, q3⟩ this
          · simp [q3]
        · simp [q2]
      · simp [q1]
    cases hR : yF p (P.1 j) (t j).1 (t j).2 A B C with
    | none =>
      rw [hR] at d
      obtain ⟨σ1, ed, hs1⟩ := d
      refine ⟨_, sp_remake_d hj44 hz (Or.inl rfl) ed, ?_, keep σ1 _ hs1⟩
      show zup σ1 4 j 7 _ 4 j 7 = 1
      simp [zup]
    | some R =>
      rw [hR] at d
      obtain ⟨σ1, ed, hs1, v8, v9, v10⟩ := d
      have n10 : ¬ (1 : Int32) = 0 := by decide
      refine ⟨_, sp_remake_d hj44 hz (Or.inr rfl) ed, ?_, keep σ1 _ hs1⟩
      refine ⟨?_, ?_, ?_, ?_⟩
      · simp [zup]
      · rw [← v8]; simp [zup]
      · rw [← v9]; simp [zup]
      · rw [← v10]; simp [zup]

