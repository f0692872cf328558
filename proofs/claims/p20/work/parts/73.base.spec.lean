/-! ===== class and reference side by side ===== -/
def zSt (p m mc : Nat) (P : yP) (t : yTo) (cl : yCl) : Prop := zpr p ∧ m ≤ 40 ∧ mc ≤ 20 ∧ yPok m P ∧ yTok p m P t ∧ yCok m mc P cl
def zSC (p m mc : Nat) (P : yP) (t : yTo) (cl : yCl) (σ : zMem) : Prop := zCb p m P t σ ∧ (∀ j, j < m → zcv σ j (yval p P t j)) ∧ zCc mc cl σ
def zSR (p m mc : Nat) (P : yP) (t : yTo) (cl : yCl) (σ : zMem) : Prop := zRb p m P t σ ∧ (∀ j, j < m → zrv σ j (yval p P t j)) ∧ zRc mc cl σ
def zRel (σ σ' : zMem) : Prop := ∃ p m mc P t cl, zSt p m mc P t cl ∧ zSC p m mc P t cl σ ∧ zSR p m mc P t cl σ'
/-- both answer alike: a number, or a refusal with its code -/
def zAg (τ τ' : zTmp) (cd : Nat → Int32) (oC oR : Option zOut) : Prop := (∃ v σ σ', oC = some (.inl (some (zI v)), (σ, τ)) ∧ oR = some (.inl (some (zI v)), (σ', τ')) ∧ σ' 0 0 0 = 0 ∧ zRel σ σ') ∨ (∃ e w σ σ', oC = some (.inr e, (σ, τ)) ∧ oR = some (.inl (some (zI w)), (σ', τ')) ∧ σ' 0 0 0 = cd e ∧ cd e ≠ 0 ∧ e ≤ 2 ∧ zRel σ σ')
def zcd (a b c : Int32) (e : Nat) : Int32 := if e = 0 then a else if e = 1 then b else if e = 2 then c else 0
theorem zSR_of {p m mc : Nat} {P : yP} {t : yTo} {cl : yCl} {σ σ' : zMem} (h : ∀ k i j, k ≠ 3 → ¬ (k = 0 ∧ j = 0) → σ' k i j = σ k i j) (hS : zSR p m mc P t cl σ) : zSR p m mc P t cl σ' := by
  obtain ⟨⟨h1, h2, ho⟩, hv, h4, hc⟩ := hS
  have eg : ∀ o w, zg σ' o w = zg σ o w := fun o w => h 1 0 _ (by decide) (fun q => by omega)
  refine ⟨⟨(h 0 0 1 (by decide) (fun q => by omega)).trans h1, (h 0 0 2 (by decide) (fun q => by omega)).trans h2, fun j hj => ?_⟩, fun j hj => zrv_keep (fun w _ _ => eg j w) (hv j hj), (h 0 0 4 (by decide) (fun q => by omega)).trans h4, fun k hk => ?_⟩
  · obtain ⟨o1, o2, o3, o4, o5⟩ := ho j hj
    exact ⟨(eg j 0).trans o1, (eg j 1).trans o2, fun k hk => (eg j (2 + k)).trans (o3 k hk), fun g => (eg j 5).trans (o4 g), fun g => (eg j 6).trans (o5 g)⟩
  · obtain ⟨c1, c2⟩ := hc k hk
    exact ⟨(h 2 0 _ (by decide) (fun q => by omega)).trans c1, fun i hi => (h 2 0 _ (by decide) (fun q => by omega)).trans (c2 i hi)⟩
theorem zt0_ne {σ : zMem} {k i j : Nat} (h : ¬ (k = 0 ∧ j = 0)) : zt0 σ k i j = σ k i j := zup_ne (fun q => h ⟨q.1, q.2.2⟩)
theorem ztf_ne {σ : zMem} {n : Int32} {k i j : Nat} (h : ¬ (k = 0 ∧ j = 0)) : ztf σ n k i j = σ k i j := (zup_ne (fun q => h ⟨q.1, q.2.2⟩)).trans (zt0_ne h)
theorem zSR_t0 {p m mc : Nat} {P : yP} {t : yTo} {cl : yCl} {σ : zMem} (h : zSR p m mc P t cl σ) : zSR p m mc P t cl (zt0 σ) := zSR_of (fun _ _ _ _ g => zt0_ne g) h
theorem zSR_tf {p m mc : Nat} {P : yP} {t : yTo} {cl : yCl} {σ : zMem} {n : Int32} (h : zSR p m mc P t cl σ) : zSR p m mc P t cl (ztf σ n) := zSR_of (fun _ _ _ _ g => ztf_ne g) h
theorem zt0_th {σ : zMem} : zt0 σ 0 0 0 = 0 := zup_eq
theorem ztf_th {σ : zMem} {n : Int32} : ztf σ n 0 0 0 = n := zup_eq
theorem zSR_L3 {p m mc : Nat} {P : yP} {t : yTo} {cl : yCl} {σ σ' : zMem} (h : zL3 σ σ') (hS : zSR p m mc P t cl σ) : zSR p m mc P t cl σ' := zSR_of (fun k i j g _ => h k i j g) hS
theorem zSC_14 {p m mc : Nat} {P : yP} {t : yTo} {cl : yCl} {σ σ' : zMem} (hm : m ≤ 43) (h : z14 σ σ') (hS : zSC p m mc P t cl σ) : zSC p m mc P t cl σ' := by
  obtain ⟨hB, hv, h7, hc⟩ := hS
  refine ⟨zCb_keep hm (fun k' i' j' g _ => h k' i' j' g) hB, fun j hj => zcv_keep (fun j' _ _ => h 4 j j' (by decide)) (hv j hj), (h 7 0 2 (by decide)).trans h7, fun k hk => ?_⟩
  obtain ⟨c1, c2⟩ := hc k hk
  exact ⟨(h 16 k 0 (by decide)).trans c1, fun i hi => (h 16 k (1 + i) (by decide)).trans (c2 i hi)⟩
theorem has_lt {m : Nat} {o : Int32} (hm : m ≤ 100) : (0 ≤ o ∧ o < nI m) ↔ ∃ j, j < m ∧ o = nI j := by
  constructor
  · rintro ⟨h1, h2⟩
    obtain ⟨j, hj, e⟩ := nI_of (Int32.not_lt.mpr h1)
    subst e
    exact ⟨j, (nI_ltI hj (by omega)).mp h2, rfl⟩
  · rintro ⟨j, hj, e⟩
    subst e
    exact ⟨nI_pos' (by omega), nI_lt hj (by omega)⟩
theorem in_lt {m : Nat} {o : Int32} (hm : m ≤ 100) : zin o 0 (nI m - 1) ↔ ∃ j, j < m ∧ o = nI j := by
  rw [← has_lt hm]
  unfold zin
  rcases Nat.eq_zero_or_pos m with h | h
  · subst h
    constructor
    · rintro ⟨h1, h2⟩
      have h1 := zle.mp h1
      have h2 := zle.mp h2
      have e1 : (nI 0 - 1).toInt = -1 := by decide
      have e2 : (0 : Int32).toInt = 0 := rfl
      omega
    · rintro ⟨h1, h2⟩
      have h1 := zle.mp h1
      have h2 := zlt.mp h2
      have e1 : (nI 0).toInt = 0 := by decide
      have e2 : (0 : Int32).toInt = 0 := rfl
      omega
  · obtain ⟨k, rfl⟩ : ∃ k, m = k + 1 := ⟨m - 1, by omega⟩
    rw [nI_pred]
    constructor
    · rintro ⟨h1, h2⟩
      refine ⟨h1, ?_⟩
      obtain ⟨j, hj, e⟩ := nI_of (Int32.not_lt.mpr h1)
      subst e
      have := (nI_leI hj (by omega)).mp h2
      exact nI_lt (by omega) (by omega)
    · rintro ⟨h1, h2⟩
      refine ⟨h1, ?_⟩
      obtain ⟨j, hj, e⟩ := nI_of (Int32.not_lt.mpr h1)
      subst e
      have := (nI_ltI hj (by omega)).mp h2
      exact nI_le (by omega) (by omega)
theorem zin_nI {n : Nat} {o : Int32} (hn : n < 100) : zin o 0 (nI n) ↔ ∃ j, j ≤ n ∧ o = nI j := by
  have := in_lt (m := n + 1) (o := o) (by omega)
  rw [nI_pred] at this
  rw [this]
  constructor
  · rintro ⟨j, h, e⟩; exact ⟨j, by omega, e⟩
  · rintro ⟨j, h, e⟩; exact ⟨j, by omega, e⟩
/-! tables -/
theorem zkp_ne {σ : zMem} {k : Nat} {i v : Int32} {k' i' j' : Nat} (h : k' ≠ k) : zkp σ k i v k' i' j' = σ k' i' j' := by
  unfold zkp
  split
  · rfl
  · split
    · rfl
    · exact zup_ne (fun q => h q.1)
theorem zkp_in {σ : zMem} {k n : Nat} {v : Int32} (h : n < 43) : zkp σ k (nI n) v = zup σ k 0 n v := by
  have g : ¬ (43 : Int32) ≤ nI n := nI_ge (a := n) (b := 43) h (by omega)
  unfold zkp
  rw [if_neg (nI_pos (by omega)), if_neg g, nI_clamp (by omega)]
theorem zR_of {p : Nat} {σ : zMem} {v : Int32} {e : Int} {B : Nat} (hp : zpr p) (hs : σ 3 0 0 = nI p) (h : yB v e B) : zR σ v = nI (yR p e) := by
  unfold zR
  rw [hs]
  exact yB_rest hp h
theorem y_opp_iff {p a b : Nat} (hp : zpr p) (h0 : 0 < a) (ha : a < p) (hb : b < p) : yR p ((a : Int) * b) = 1 ↔ b = zopp p a := by
  have h7 := (zpr_lt hp).1
  have h00 := zpr_pos hp
  have na : ¬ yE p (a : Int) 0 := fun g => by have := yE_nat ha h00 g; omega
  have ol := zopp_lt hp ha
  have oi := y_inv hp na
  rw [yV_nat ha] at oi
  have one : yR p 1 = 1 := yR_nat (n := 1) (by omega)
  constructor
  · intro h
    have h1 : yE p ((a : Int) * b) 1 := (yE_iff h00).mp (h.trans one.symm)
    exact yE_nat hb ol (y_uniq hp na h1 oi)
  · intro h
    subst h
    rw [yR_E oi, one]
theorem zia_ok {p a : Nat} (hp : zpr p) (h0 : 0 < a) (ha : a < p) : ∀ d b (σ : zMem), b + d = p → σ 3 0 0 = nI p → (∀ k i j, ¬ (k = 9 ∧ j = a) → zia a d b σ k i j = σ k i j) ∧ (zia a d b σ 9 0 a = if b ≤ zopp p a then nI (zopp p a) else σ 9 0 a) := by
  have h43 := (zpr_lt hp).2
  have ol := zopp_lt hp ha
  intro d
  induction d with
  | zero =>
    intro b σ hb hs
    exact ⟨fun _ _ _ _ => rfl, by rw [if_neg (by omega)]; rfl⟩
  | succ d ih =>
    intro b σ hb hs
    have hR : zR σ (nI a * nI b) = 1 ↔ b = zopp p a := by
      rw [zR_of hp hs (yB_mul (yB_n (by omega)) (yB_n (by omega)) (by decide)), ← y_opp_iff hp h0 ha (by omega)]
      exact nI_eq (b := 1) (by have := yR_lt (e := (a : Int) * b) (zpr_pos hp); omega) (by decide)
    rw [zia]
    by_cases g : zR σ (nI a * nI b) = 1
    · rw [if_pos g, zkp_in (by omega)]
      have e := hR.mp g
      obtain ⟨i1, i2⟩ := ih (b + 1) (zup σ 9 0 a (nI b)) (by omega) ((zup_ne (fun q => by omega)).trans hs)
      refine ⟨fun k i j h => (i1 k i j h).trans (zup_ne (fun q => h ⟨q.1, q.2.2⟩)), ?_⟩
      rw [i2, if_neg (by omega), if_pos (by omega), zup_eq, e]
    · rw [if_neg g]
      have e : ¬ b = zopp p a := fun q => g (hR.mpr q)
      obtain ⟨i1, i2⟩ := ih (b + 1) σ (by omega) hs
      refine ⟨i1, ?_⟩
      rw [i2]
      by_cases q : b ≤ zopp p a
      · rw [if_pos q, if_pos (by omega)]
      · rw [if_neg q, if_neg (by omega)]
theorem zio_ok {p : Nat} (hp : zpr p) : ∀ d a (σ : zMem), 1 ≤ a → a + d = p → σ 3 0 0 = nI p → (∀ k i j, ¬ (k = 9 ∧ a ≤ j) → zio p d a σ k i j = σ k i j) ∧ (∀ n, a ≤ n → n < p → zio p d a σ 9 0 n = nI (zopp p n)) := by
  have h43 := (zpr_lt hp).2
  intro d
  induction d with
  | zero =>
    intro a σ h1 ha hs
    exact ⟨fun _ _ _ _ => rfl, fun n g1 g2 => by omega⟩
  | succ d ih =>
    intro a σ h1 ha hs
    have o1 := (zopp_ok hp (n := a) (by omega) (by omega)).1
    obtain ⟨z1, z2⟩ := zia_ok hp (a := a) (by omega) (by omega) (p - 1) 1 σ (by omega) hs
    rw [if_pos o1] at z2
    obtain ⟨i1, i2⟩ := ih (a + 1) (zia a (p - 1) 1 σ) (by omega) (by omega) ((z1 3 0 0 (fun q => by omega)).trans hs)
    rw [zio]
    refine ⟨fun k i j h => (i1 k i j (fun q => h ⟨q.1, by omega⟩)).trans (z1 k i j (fun q => h ⟨q.1, by omega⟩)), fun n g1 g2 => ?_⟩
    rcases Nat.eq_or_lt_of_le g1 with g | g
    · subst g
      rw [i1 9 0 a (fun q => by omega), z2]
    · exact i2 n g g2
theorem zrmv_ok {σ : zMem} : ∀ n, (∀ k i j, k ≠ 10 → zrmv σ n k i j = σ k i j) ∧ ∀ j, j < n → zrmv σ n 10 0 j = -1
  | 0 => ⟨fun _ _ _ _ => rfl, fun j h => by omega⟩
  | n + 1 => by
    obtain ⟨h1, h2⟩ := zrmv_ok (σ := σ) n
    refine ⟨fun k i j h => (zup_ne (fun q => h q.1)).trans (h1 k i j h), fun j h => ?_⟩
    rw [zrmv]
    by_cases g : j = n
    · subst g; exact zup_eq
    · rw [zup_ne (fun q => g q.2.2)]; exact h2 j (by omega)
theorem zrk_ok {p : Nat} (hp : zpr p) : ∀ k (σ : zMem), k ≤ p → σ 3 0 0 = nI p → (∀ k' i j, k' ≠ 10 → zrk k σ k' i j = σ k' i j) ∧ ∀ n, n < p → zrk k σ 10 0 n = match (List.range k).find? (fun r => r * r % p == n) with
    | none => σ 10 0 n
    | some r => nI r := by
  have h43 := (zpr_lt hp).2
  have h0 := zpr_pos hp
  intro k
  induction k with
  | zero =>
    intro σ hk hs
    exact ⟨fun _ _ _ _ => rfl, fun n hn => rfl⟩
  | succ k ih =>
    intro σ hk hs
    have hR : zR σ (nI k * nI k) = nI (k * k % p) := by
      rw [zR_of hp hs (yB_mul (yB_n (by omega)) (yB_n (by omega)) (by decide))]
      unfold yR
      rw [← Int.natCast_mul, ← Int.natCast_emod]
      rfl
    have hlt : k * k % p < p := Nat.mod_lt _ h0
    rw [zrk, hR, zkp_in (by omega)]
    obtain ⟨i1, i2⟩ := ih (zup σ 10 0 (k * k % p) (nI k)) (by omega) ((zup_ne (fun q => by omega)).trans hs)
    refine ⟨fun k' i j h => (i1 k' i j h).trans (zup_ne (fun q => h q.1)), fun n hn => ?_⟩
    rw [i2 n hn, List.range_succ, List.find?_append]
    cases hf : (List.range k).find? (fun r => r * r % p == n) with
    | some r => rfl
    | none =>
      simp only [Option.none_or]
      by_cases g : k * k % p = n
      · have : List.find? (fun r => r * r % p == n) [k] = some k := by simp [g]
        rw [this]
        subst g
        exact zup_eq
      · have : List.find? (fun r => r * r % p == n) [k] = none := by simp [g]
        rw [this]
        exact zup_ne (fun q => g q.2.2.symm)
theorem zchs_ok {p : Nat} {σ : zMem} (hp : zpr p) (h9 : σ 9 0 0 = 0) : zField (zchs σ p) p ∧ ∀ k i j, k ≠ 3 → k ≠ 9 → k ≠ 10 → zchs σ p k i j = σ k i j := by
  have h43 := (zpr_lt hp).2
  have h7 := (zpr_lt hp).1
  obtain ⟨m1, m2⟩ := zrmv_ok (σ := zup σ 3 0 0 (nI p)) 43
  have s1 : zrmv (zup σ 3 0 0 (nI p)) 43 3 0 0 = nI p := (m1 3 0 0 (by decide)).trans zup_eq
  obtain ⟨k1, k2⟩ := zrk_ok hp p (zrmv (zup σ 3 0 0 (nI p)) 43) (Nat.le_refl p) s1
  obtain ⟨i1, i2⟩ := zio_ok hp (p - 1) 1 (zrk p (zrmv (zup σ 3 0 0 (nI p)) 43)) (Nat.le_refl 1) (by omega) ((k1 3 0 0 (by decide)).trans s1)
  have z0 : zopp p 0 = 0 := by rcases hp with h | h | h | h | h | h <;> subst h <;> decide +kernel
  refine ⟨⟨?_, fun n hn => ?_, fun n hn => ?_⟩, fun k i j h3 h9' h10 => ?_⟩
  · exact (i1 3 0 0 (fun q => by omega)).trans ((k1 3 0 0 (by decide)).trans s1)
  · rcases Nat.eq_zero_or_pos n with g | g
    · subst g
      show zio p (p - 1) 1 _ 9 0 0 = _
      rw [i1 9 0 0 (fun q => by omega), k1 9 0 0 (by decide), m1 9 0 0 (by decide), zup_ne (fun q => by omega), h9, z0]
      rfl
    · exact i2 n g hn
  · show zio p (p - 1) 1 _ 10 0 n = _
    rw [i1 10 0 n (fun q => by omega), k2 n hn]
    unfold yro yrt
    cases (List.range p).find? (fun r => r * r % p == n) with
    | none => exact m2 n (by omega)
    | some r => rfl
  · show zio p (p - 1) 1 _ k i j = _
    rw [i1 k i j (fun q => h9' q.1), k1 k i j h10, m1 k i j h10, zup_ne (fun q => h3 q.1)]
/-- the reference's root -/
theorem zrs_ok {p n : Nat} (hp : zpr p) (hn : n < p) : zrs p (nI n) p 0 = yro p n := by
  have h43 := (zpr_lt hp).2
  have h0 := zpr_pos hp
  have hz : ∀ r, r < p → (zmd (nI r * nI r) (nI p) = nI n ↔ r * r % p = n) := by
    intro r hr
    have hb : r * r ≤ 42 * 42 := Nat.mul_le_mul (by omega) (by omega)
    have hlt : r * r % p < p := Nat.mod_lt _ h0
    unfold zmd
    rw [pk_mul, pk_rem (by omega) h0 (by omega)]
    exact nI_eq (by omega) (by omega)
  have main : ∀ d r, r + d = p → (∀ q, q < r → ¬ q * q % p = n) → zrs p (nI n) d r = yro p n := by
    intro d
    induction d with
    | zero =>
      intro r hr hq
      have e : yrt p n = none := by
        unfold yrt
        rw [List.find?_eq_none]
        intro q hq'
        rw [List.mem_range] at hq'
        rw [beq_iff_eq]
        exact hq q (by omega)
      unfold yro
      rw [e]
      rfl
    | succ d ih =>
      intro r hr hq
      rw [zrs]
      by_cases g : r * r % p = n
      · rw [if_pos ((hz r (by omega)).mpr g)]
        have e : yrt p n = some r := by
          unfold yrt
          rw [List.find?_range_eq_some]
          refine ⟨by rw [beq_iff_eq]; exact g, List.mem_range.mpr (by omega), fun j hj => ?_⟩
          have := hq j hj
          simp [this]
        unfold yro
        rw [e]
      · rw [if_neg (fun q => g ((hz r (by omega)).mp q))]
        refine ih (r + 1) (by omega) (fun q h => ?_)
        rcases Nat.eq_or_lt_of_le (Nat.le_of_lt_succ h) with g' | g'
        · rw [g']; exact g
        · exact hq q g'
  exact main p 0 (by omega) (fun q h => by omega)

