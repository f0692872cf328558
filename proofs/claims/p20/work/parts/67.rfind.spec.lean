/-! ===== the reference finds what the numbers say ===== -/
def zValR (σ : zMem) (o : Nat) (A : yT) : Prop := zg σ o 8 = nI A.1 ∧ zg σ o 9 = nI A.2.1 ∧ zg σ o 10 = nI A.2.2
def zLaid (σ : zMem) (A : yT) : Prop := σ 3 0 0 = nI A.1 ∧ σ 3 0 1 = nI A.2.1 ∧ σ 3 0 2 = nI A.2.2
def rOut (σ : zMem) (τ : zTmp) (F : Option yT) (o : Option zOut) : Prop := match F with
  | none => ∃ σ', o = some (.inl (some (zI 0)), (σ', τ)) ∧ zL3 σ σ'
  | some A => ∃ σ', o = some (.inl (some (zI 1)), (σ', τ)) ∧ zL3 σ σ' ∧ zLaid σ' A
theorem rOut_of {σ : zMem} {τ : zTmp} {F : Option yT} {o o' : Option zOut} (h : rOut σ τ F o) (f : ∀ r σ', (r = 0 ∨ r = 1) → o = some (.inl (some (zI r)), (σ', τ)) → o' = some (.inl (some (zI r)), (σ', τ))) : rOut σ τ F o' := by
  cases F with
  | none =>
    obtain ⟨σ', e, hs⟩ := h
    exact ⟨σ', f 0 σ' (Or.inl rfl) e, hs⟩
  | some A =>
    obtain ⟨σ', e, hs, hv⟩ := h
    exact ⟨σ', f 1 σ' (Or.inr rfl) e, hs, hv⟩
theorem rOut_L3 {σ σ0 : zMem} {τ : zTmp} {F : Option yT} {o : Option zOut} (hL : zL3 σ0 σ) (h : rOut σ τ F o) : rOut σ0 τ F o := by
  cases F with
  | none =>
    obtain ⟨σ', e, hs⟩ := h
    exact ⟨σ', e, zL3_trans hL hs⟩
  | some A =>
    obtain ⟨σ', e, hs, hv⟩ := h
    exact ⟨σ', e, zL3_trans hL hs, hv⟩
theorem zRB {p o : Nat} {σ : zMem} {A : yT} (hp : zpr p) (h : zValR σ o A) (ok : yOk p A) : yB (zg σ o 8) A.1 42 ∧ yB (zg σ o 9) A.2.1 42 ∧ yB (zg σ o 10) A.2.2 42 := by
  have := zpr_lt hp
  obtain ⟨h1, h2, h3⟩ := h
  obtain ⟨o1, o2, o3⟩ := ok
  rw [h1, h2, h3]
  exact ⟨yB_n (by omega), yB_n (by omega), yB_n (by omega)⟩
theorem rM {p : Nat} {σ : zMem} {v : Int32} {e : Int} {B : Nat} (hp : zpr p) (hs : σ 0 0 1 = nI p) (h : yB v e B) : zM σ v = nI (yR p e) := by rw [zM_nat hp hs, yB_mn h]
theorem zLaid_la {p : Nat} {σ : zMem} {a b c : Int32} {e f g : Int} {B C D : Nat} (hp : zpr p) (hs : σ 0 0 1 = nI p) (ha : yB a e B) (hb : yB b f C) (hc : yB c g D) : zLaid (zla σ a b c) (yR p e, yR p f, yR p g) := ⟨by rw [zla_30, rM hp hs ha], by rw [zla_31, rM hp hs hb], by rw [zla_32, rM hp hs hc]⟩
theorem rOut_la {p : Nat} {σ : zMem} {τ : zTmp} {a b c : Int32} {e f g : Int} {B C D : Nat} {A : yT} (hp : zpr p) (hs : σ 0 0 1 = nI p) (ha : yB a e B) (hb : yB b f C) (hc : yB c g D) (h1 : yR p e = A.1) (h2 : yR p f = A.2.1) (h3 : yR p g = A.2.2) : rOut σ τ (some A) (some (.inl (some (zI 1)), (zla σ a b c, τ))) := by
  obtain ⟨l1, l2, l3⟩ := zLaid_la hp hs ha hb hc
  exact ⟨_, rfl, zL3_la, l1.trans (congrArg nI h1), l2.trans (congrArg nI h2), l3.trans (congrArg nI h3)⟩
theorem yR_zero {p : Nat} : yR p 0 = 0 := by unfold yR; rw [Int.zero_emod]; rfl
theorem r_fs {p : Nat} {a b : Int32} {e f : Int} {B C : Nat} (ha : yB a e B) (hb : yB b f C) : zfs p a b = yR p (yfs p e f) := by
  unfold zfs yfs
  rw [yB_mn ha, yB_mn hb]
  by_cases h : yR p e = 0
  · rw [if_pos h, if_pos h]
  · rw [if_neg h, if_neg h]
theorem rOut_ln {p : Nat} {σ : zMem} {τ : zTmp} {a b c : Int32} {e f g : Int} {B C D : Nat} (hp : zpr p) (hs : σ 0 0 1 = nI p) (ha : yB a e B) (hb : yB b f C) (hc : yB c g D) : rOut σ τ (yLn p e f g) (zll σ τ p a b c) := by
  have h0 := zpr_pos hp
  unfold zll zlnl yLn
  rw [r_fs ha hb, yB_mn ha, yB_mn hb, yB_mn hc]
  by_cases h : yR p (yfs p e f) = 0
  · rw [if_pos h, if_pos h]
    exact ⟨_, rfl, zL3_refl⟩
  · rw [if_neg h, if_neg h]
    exact rOut_la hp hs (yB_mul (yR_B hp) (yV_B hp) (by decide)) (yB_mul (yR_B hp) (yV_B hp) (by decide)) (yB_mul (yR_B hp) (yV_B hp) (by decide)) (yR_E (yE_mul (yE_R h0) yE_refl)) (yR_E (yE_mul (yE_R h0) yE_refl)) (yR_E (yE_mul (yE_R h0) yE_refl))
theorem zmd_B {p : Nat} {v : Int32} {e : Int} {B : Nat} (hp : zpr p) (h : yB v e B) (h0 : 0 ≤ e) : zmd v (nI p) = nI (yR p e) := by
  have hl := zpr_lt hp
  have hr := zrange v
  rw [h.1] at hr
  have ev : v = nI e.toNat := by
    rw [zeq, h.1, nI_toInt (by omega)]
    omega
  unfold zmd
  rw [ev, pk_rem (by omega) (by omega) (by omega)]
  unfold yR
  have : ((e.toNat : Nat) : Int) = e := by omega
  have h2 : ((e.toNat % p : Nat) : Int) = e % (p : Int) := by rw [Int.natCast_emod, this]
  exact congrArg nI (by omega)
/-! common: the places by turns -/
theorem zcm1_no {p lim : Nat} {a b c u v s w : Int32} : ∀ d t many (σ : zMem), (∀ q, t ≤ q → q < t + d → ¬ zhv p a b c u v w q = s) → zcm1 p a b c u v s w lim d t many σ = (many, σ) := by
  intro d
  induction d with
  | zero => intro t many σ _; rfl
  | succ d ih =>
    intro t many σ h
    rw [zcm1]
    by_cases g : lim ≤ many
    · rw [if_pos g]
    · rw [if_neg g, if_neg (h t (by omega) (by omega))]
      exact ih (t + 1) many σ (fun q h1 h2 => h q (by omega) (by omega))
theorem zcm1_full {p lim d t many : Nat} {a b c u v s w : Int32} {σ : zMem} (h : lim ≤ many) : zcm1 p a b c u v s w lim d t many σ = (many, σ) := by
  cases d with
  | zero => rfl
  | succ d => rw [zcm1, if_pos h]
theorem zcm1_hit {p lim t1 : Nat} {a b c u v s w : Int32} (ht : zhv p a b c u v w t1 = s) : ∀ d t many (σ : zMem), many < lim → t ≤ t1 → t1 < t + d → (∀ q, t ≤ q → q < t1 → ¬ zhv p a b c u v w q = s) → zcm1 p a b c u v s w lim d t many σ = zcm1 p a b c u v s w lim (t + d - t1 - 1) (t1 + 1) (many + 1) (zla σ (zcX p b c t1) (zcY p a b c w t1) 0) := by
  intro d
  induction d with
  | zero => intro t many σ _ h1 h2; omega
  | succ d ih =>
    intro t many σ hm h1 h2 h3
    rw [zcm1, if_neg (by omega)]
    rcases Nat.eq_or_lt_of_le h1 with h | h
    · subst h
      rw [if_pos ht]
      have : t + (d + 1) - t - 1 = d := by omega
      rw [this]
    · rw [if_neg (h3 t (Nat.le_refl t) h)]
      rw [ih (t + 1) many σ hm (by omega) (by omega) (fun q g1 g2 => h3 q (by omega) g2)]
      have : t + 1 + d - t1 - 1 = t + (d + 1) - t1 - 1 := by omega
      rw [this]
/-- two places, the first ahead of the second -/
theorem zcm1_two {p lim ta tb : Nat} {a b c u v s w : Int32} {σ : zMem} (hl : lim = 1 ∨ lim = 2) (h1 : ta ≤ tb) (h2 : tb < p) (ha : zhv p a b c u v w ta = s) (hb : zhv p a b c u v w tb = s) (hall : ∀ q, q < p → zhv p a b c u v w q = s → q = ta ∨ q = tb) :
    ∃ many σ1, many ≠ 0 ∧ zL3 σ σ1 ∧ zcm1 p a b c u v s w lim p 0 0 σ = (many, zla σ1 (zcX p b c (if lim = 1 then ta else tb)) (zcY p a b c w (if lim = 1 then ta else tb)) 0) := by
  have e1 := zcm1_hit (lim := lim) ha p 0 0 σ (by omega) (by omega) (by omega) (fun q _ g h => by have := hall q (by omega) h; omega)
  rcases hl with h | h
  · subst h
    refine ⟨1, σ, by decide, zL3_refl, ?_⟩
    rw [if_pos rfl]
    exact e1.trans (zcm1_full (by decide))
  · subst h
    rcases Nat.eq_or_lt_of_le h1 with g | g
    · subst g
      refine ⟨1, σ, by decide, zL3_refl, ?_⟩
      rw [if_neg (by decide)]
      exact e1.trans (zcm1_no _ _ _ _ (fun q g1 g2 h => by have := hall q (by omega) h; omega))
    · have e2 := zcm1_hit (lim := 2) hb (0 + p - ta - 1) (ta + 1) 1 (zla σ (zcX p b c ta) (zcY p a b c w ta) 0) (by omega) (by omega) (by omega) (fun q g1 g2 h => by have := hall q (by omega) h; omega)
      refine ⟨2, _, by decide, zL3_la (a := zcX p b c ta) (b := zcY p a b c w ta) (c := 0), ?_⟩
      rw [if_neg (by decide)]
      exact e1.trans (e2.trans (zcm1_full (by decide)))
