/-! ===== an object more ===== -/
theorem yval_ext {p m : Nat} {P P' : yP} {t t' : yTo} (hP : yPa m P) (e1 : ∀ j, j < m → P'.1 j = P.1 j) (e2 : ∀ j, j < m → P'.2 j = P.2 j) (e3 : ∀ j, j < m → t' j = t j) : ∀ n j, j < n → j < m → yval p P' t' j = yval p P t j := by
  have hP' : yPa m P' := fun j hj k hk q hq => hP j hj k hk q (by rw [← e2 j hj]; exact hq)
  intro n
  induction n with
  | zero => intro j h; omega
  | succ n ih =>
    intro j h hj
    rw [yval_st hP' hj, yval_st hP hj]
    unfold yst
    rw [e1 j hj, e2 j hj, e3 j hj]
    have pe : ∀ k, k < 3 → ypv (yval p P' t') (P.2 j k) = ypv (yval p P t) (P.2 j k) := fun k hk => ypv_eq (fun q hq => ih q (by have := hP j hj k hk q hq; omega) (by have := hP j hj k hk q hq; omega))
    rw [pe 0 (by decide), pe 1 (by decide), pe 2 (by decide)]
/-- the state with an object more -/
def yNx (p m mc : Nat) (P : yP) (t : yTo) (cl : yCl) (P' : yP) (t' : yTo) : Prop := (∀ j, j < m → P'.1 j = P.1 j) ∧ (∀ j, j < m → P'.2 j = P.2 j) ∧ (∀ j, j < m → t' j = t j) ∧ zSt p (m + 1) mc P' t' cl
theorem c_app {p m mc : Nat} {P P' : yP} {t t' : yTo} {cl : yCl} {σ σ1 : zMem} {τ : zTmp} (hS : zSt p m mc P t cl) (hC : zSC p m mc P t cl σ) (hN : yNx p m mc P t cl P' t')
    (hk : ∀ k i j, ¬ (k = 5 ∧ i = 0 ∧ j = 2) → ¬ (k = 4 ∧ i = m ∧ 1 ≤ j ∧ j ≤ 6) → σ1 k i j = σ k i j) (h5 : σ1 5 0 2 = nI (m + 1)) (hw : σ1 4 m 1 = nI (P'.1 m)) (hq : ∀ k, k < 3 → σ1 4 m (2 + k) = yq (P'.2 m k)) (hx : P'.1 m < 2 → σ1 4 m 5 = nI (t' m).1) (hy : P'.1 m = 0 → σ1 4 m 6 = nI (t' m).2) :
    ∃ σ', m_X8_remake [zO 0 0, zO 4 m] (σ1, τ) = some (.inl none, (σ', τ)) ∧ zSC p (m + 1) mc P' t' cl σ' ∧ σ' 4 m 0 = nI m := by
  obtain ⟨hp, hm, hmc, hP, hT, hK⟩ := hS
  obtain ⟨⟨hF, hs, hr, h43, ho⟩, hv, h7, hc⟩ := hC
  obtain ⟨n1, n2, n3, hp', hm', _, hP', hT', hK'⟩ := hN
  have hB1 : zCb p (m + 1) P' t' σ1 := by
    refine ⟨zField_of (fun k' j' g => hk k' 0 j' (fun q => by omega) (fun q => by omega)) hF, h5, fun j hj => (hk 4 j 0 (fun q => by omega) (fun q => by omega)).trans (hr j hj), ⟨(hk 4 43 7 (fun q => by omega) (fun q => by omega)).trans h43.1, (hk 4 43 11 (fun q => by omega) (fun q => by omega)).trans h43.2⟩, fun j hj => ?_⟩
    rcases Nat.eq_or_lt_of_le (Nat.le_of_lt_succ hj) with g | g
    · subst g
      exact ⟨(hk 4 j 0 (fun q => by omega) (fun q => by omega)).trans (hr j (by omega)), hw, hq, hx, hy⟩
    · obtain ⟨o1, o2, o3, o4, o5⟩ := ho j g
      have e : ∀ w, σ1 4 j w = σ 4 j w := fun w => hk 4 j w (fun q => by omega) (fun q => by omega)
      exact ⟨(e 0).trans o1, by rw [e 1, n1 j g]; exact o2, fun k hk' => by rw [e, n2 j g]; exact o3 k hk', fun z => by rw [e, n3 j g]; exact o4 (by rw [← n1 j g]; exact z), fun z => by rw [e, n3 j g]; exact o5 (by rw [← n1 j g]; exact z)⟩
  have hve : ∀ j, j < m → yval p P' t' j = yval p P t j := fun j hj => yval_ext (yPok_a hP) n1 n2 n3 (j + 1) j (by omega) hj
  have hv1 : ∀ j, j < m → zcv σ1 j (yval p P' t' j) := fun j hj => by
    rw [hve j hj]
    exact zcv_keep (fun w _ _ => hk 4 j w (fun q => by omega) (fun q => by omega)) (hv j hj)
  have hPa' := yPok_a hP'
  obtain ⟨σ', e, hz, hkk⟩ := yc_remake (τ := τ) (v := yval p P' t') hp hP' (by omega) (show m < m + 1 by omega) hB1 hT' (fun k hk' q hq' => hv1 q (hPa' m (by omega) k hk' q hq')) (fun k hk' q hq' A hA => yval_ok hp hP' (by have := hPa' m (by omega) k hk' q hq'; omega) hA)
  rw [← yval_st hPa' (by omega)] at hz
  have ne : ∀ k' i' j', k' ≠ 14 → k' ≠ 4 → σ' k' i' j' = σ1 k' i' j' := fun k' i' j' g1 g2 => hkk k' i' j' (fun q => g2 q.1) g1
  refine ⟨σ', e, ⟨zCb_keep (by omega) (fun k' i' j' g1 g2 => hkk k' i' j' (fun q => g2 ⟨q.1, q.2.2.1, Or.inl (by omega)⟩) g1) hB1, fun j hj => ?_, ?_, fun k hk' => ?_⟩, ?_⟩
  · rcases Nat.eq_or_lt_of_le (Nat.le_of_lt_succ hj) with g | g
    · subst g; exact hz
    · exact zcv_keep (fun w _ _ => hkk 4 j w (fun q => by omega) (by decide)) (hv1 j g)
  · rw [ne 7 0 2 (by decide) (by decide), hk 7 0 2 (fun q => by omega) (fun q => by omega)]; exact h7
  · obtain ⟨c1, c2⟩ := hc k hk'
    refine ⟨?_, fun i hi => ?_⟩
    · rw [ne 16 k 0 (by decide) (by decide), hk 16 k 0 (fun q => by omega) (fun q => by omega)]; exact c1
    · rw [ne 16 k (1 + i) (by decide) (by decide), hk 16 k (1 + i) (fun q => by omega) (fun q => by omega)]; exact c2 i hi
  · rw [hkk 4 m 0 (fun q => by omega) (by decide), hk 4 m 0 (fun q => by omega) (fun q => by omega)]
    exact hr m (by omega)
theorem zaddS_g {σ : zMem} {m : Nat} {s w a b c x y : Int32} {j k : Nat} (hk : k < 11) : zg (zaddS σ m s w a b c x y) j k = if j = m then zsaid s w a b c x y k else zg σ j k := by
  show zaddS σ m s w a b c x y 1 0 (11 * j + k) = _
  unfold zaddS
  rw [zup_ne (fun q => by omega)]
  unfold zrow
  rw [if_pos ⟨rfl, rfl⟩]
  unfold va_cpy
  by_cases g : j = m
  · subst g
    rw [if_pos rfl, if_pos (by omega)]
    have : 0 + (11 * j + k - 11 * j) = k := by omega
    rw [this]
  · rw [if_neg g, if_neg (by omega)]
    rfl
theorem zaddS_ne {σ : zMem} {m : Nat} {s w a b c x y : Int32} {k i j : Nat} (h : k ≠ 1) (h' : ¬ (k = 0 ∧ j = 2)) : zaddS σ m s w a b c x y k i j = σ k i j := by
  unfold zaddS
  rw [zup_ne (fun q => h' ⟨q.1, q.2.2⟩)]
  unfold zrow
  rw [if_neg (fun q => h q.1)]
theorem yCok_next {m mc : Nat} {P P' : yP} {cl : yCl} (h : yCok m mc P cl) (n1 : ∀ j, j < m → P'.1 j = P.1 j) : yCok (m + 1) mc P' cl := by
  intro k hk
  obtain ⟨h8, ho⟩ := h k hk
  refine ⟨h8, fun i hi => ⟨fun g => ?_, (ho i hi).2⟩⟩
  obtain ⟨q, e, l, f⟩ := (ho i hi).1 g
  exact ⟨q, e, by omega, fun h7 => by rw [n1 q l]; exact f h7⟩
/-- a program with one more -/
def yNp (P : yP) (m w : Nat) (qs : Nat → Option Nat) : yP := (fun j => if j = m then w else P.1 j, fun j => if j = m then qs else P.2 j)
theorem yPok_next {m w : Nat} {P : yP} {qs : Nat → Option Nat} (hP : yPok m P) (hy : ywy w)
    (h0 : (w = 0 → qs 0 = none) ∧ (w ≠ 0 → ∃ a, qs 0 = some a ∧ a < m ∧ (w = 1 ∨ w = 2 ∨ w = 3 ∨ w = 4 → 10 ≤ P.1 a ∧ P.1 a < 20)))
    (h1 : (w < 2 → qs 1 = none) ∧ (2 ≤ w → ∃ b, qs 1 = some b ∧ b < m ∧ (w = 2 ∨ w = 8 ∨ w = 11 ∨ w = 12 → 10 ≤ P.1 b ∧ P.1 b < 20)))
    (h2 : (w < 21 → qs 2 = none) ∧ (21 ≤ w → ∃ c, qs 2 = some c ∧ c < m)) : yPok (m + 1) (yNp P m w qs) := by
  have eo : ∀ j, j < m → (yNp P m w qs).1 j = P.1 j := fun j hj => if_neg (by omega)
  have eq : ∀ j, j < m → (yNp P m w qs).2 j = P.2 j := fun j hj => if_neg (by omega)
  intro j hj
  rcases Nat.eq_or_lt_of_le (Nat.le_of_lt_succ hj) with g | g
  · subst g
    have em : (yNp P j w qs).1 j = w := if_pos rfl
    have em2 : (yNp P j w qs).2 j = qs := if_pos rfl
    rw [em, em2]
    refine ⟨hy, ⟨h0.1, fun z => ?_⟩, ⟨h1.1, fun z => ?_⟩, h2⟩
    · obtain ⟨a, e, l, s⟩ := h0.2 z
      exact ⟨a, e, l, by rw [eo a l]; exact s⟩
    · obtain ⟨a, e, l, s⟩ := h1.2 z
      exact ⟨a, e, l, by rw [eo a l]; exact s⟩
  · obtain ⟨hy', ⟨a0, a1⟩, ⟨b0, b1⟩, c0⟩ := hP j g
    rw [eo j g, eq j g]
    refine ⟨hy', ⟨a0, fun z => ?_⟩, ⟨b0, fun z => ?_⟩, c0⟩
    · obtain ⟨a, e, l, s⟩ := a1 z
      exact ⟨a, e, l, by rw [eo a (by omega)]; exact s⟩
    · obtain ⟨a, e, l, s⟩ := b1 z
      exact ⟨a, e, l, by rw [eo a (by omega)]; exact s⟩
theorem zsort_nI {w : Nat} (h : w < 23) : zsort (nI w) = if w < 10 then 0 else if w < 20 then 1 else 2 := by
  have e10 : nI w < 10 ↔ w < 10 := nI_ltI (b := 10) (by omega) (by decide)
  have e20 : nI w < 20 ↔ w < 20 := nI_ltI (b := 20) (by omega) (by decide)
  unfold zsort
  by_cases g : w < 10
  · rw [if_pos (e10.mpr g), if_pos g]
  · rw [if_neg (fun q => g (e10.mp q)), if_neg g]
    by_cases g' : w < 20
    · rw [if_pos (e20.mpr g'), if_pos g']
    · rw [if_neg (fun q => g' (e20.mp q)), if_neg g']
theorem ywy_lt {w : Nat} (h : ywy w) : w < 23 := by unfold ywy at h; omega
theorem zsort_1 {w : Nat} (h : ywy w) : zsort (nI w) = 1 ↔ 10 ≤ w ∧ w < 20 := by
  rw [zsort_nI (ywy_lt h)]
  by_cases g : w < 10
  · rw [if_pos g]
    exact ⟨fun q => absurd q (by decide), fun q => by omega⟩
  · rw [if_neg g]
    by_cases g' : w < 20
    · rw [if_pos g']
      exact ⟨fun _ => by omega, fun _ => rfl⟩
    · rw [if_neg g']
      exact ⟨fun q => absurd q (by decide), fun q => by omega⟩
