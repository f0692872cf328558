/-! ===== the class makes what the numbers say ===== -/
def zVal (σ : zMem) (k i : Nat) (A : yT) : Prop := σ k i 8 = nI A.1 ∧ σ k i 9 = nI A.2.1 ∧ σ k i 10 = nI A.2.2
def yro (p n : Nat) : Int32 := match yrt p n with
  | none => -1
  | some r => nI r
def zField (σ : zMem) (p : Nat) : Prop := σ 3 0 0 = nI p ∧ (∀ n, n < p → σ 9 0 n = nI (zopp p n)) ∧ (∀ n, n < p → σ 10 0 n = yro p n)
theorem zopp_lt {p n : Nat} (hp : zpr p) (hn : n < p) : zopp p n < p := by
  rcases Nat.eq_zero_or_pos n with h | h
  · subst h
    rcases hp with h | h | h | h | h | h <;> subst h <;> decide +kernel
  · exact (zopp_ok hp h hn).2.1
theorem yV_B {p : Nat} {e : Int} (hp : zpr p) : yB (nI (zopp p (yR p e))) (yV p e) 42 := by
  have := zopp_lt hp (yR_lt (e := e) (zpr_pos hp))
  have := zpr_lt hp
  exact yB_n (by omega)
theorem yR_B {p : Nat} {e : Int} (hp : zpr p) : yB (nI (yR p e)) (yR p e : Nat) 42 := by
  have := yR_lt (e := e) (zpr_pos hp)
  have := zpr_lt hp
  exact yB_n (by omega)
theorem cR {p : Nat} {σ : zMem} {v : Int32} {e : Int} {B : Nat} (hp : zpr p) (hF : zField σ p) (h : yB v e B) : zR σ v = nI (yR p e) := by
  unfold zR
  rw [hF.1]
  exact yB_rest hp h
theorem nI_tab {f : Nat → Int32} {d : Int32} {n : Nat} (h : n < 43) : ztab f d (nI n) = f n := by
  have g : ¬ (43 : Int32) ≤ nI n := nI_ge (a := n) (b := 43) h (by omega)
  unfold ztab
  rw [if_neg (nI_pos (by omega)), if_neg g, nI_clamp (by omega)]
theorem cV {p : Nat} {σ : zMem} {e : Int} (hp : zpr p) (hF : zField σ p) : ztab (σ 9 0) 0 (nI (yR p e)) = nI (zopp p (yR p e)) := by
  have := yR_lt (e := e) (zpr_pos hp)
  have := zpr_lt hp
  rw [nI_tab (by omega)]
  exact hF.2.1 _ (by omega)
theorem cQ {p : Nat} {σ : zMem} {v w : Int32} {e f : Int} {B C : Nat} (hp : zpr p) (hF : zField σ p) (h : yB v e B) (h' : yB w f C) : zratio σ v w = nI (yR p (e * yV p f)) := by
  have h0 := zpr_pos hp
  unfold zratio
  rw [hF.1, yB_rest hp h, yB_rest hp h', cV hp hF, yB_rest hp (yB_mul (yR_B hp) (yV_B hp) (by decide))]
  rw [yR_E (yE_mul (yE_R h0) yE_refl)]
theorem cRn {p n : Nat} {σ : zMem} (hp : zpr p) (hF : zField σ p) (h : n < p) : zR σ (nI n) = nI n := by
  have := zpr_lt hp
  rw [cR hp hF (yB_n (by omega)), yR_nat h]
theorem cRR {p : Nat} {σ : zMem} {e : Int} (hp : zpr p) (hF : zField σ p) : zR σ (nI (yR p e)) = nI (yR p e) := cRn hp hF (yR_lt (zpr_pos hp))
theorem nI_R0 {p : Nat} {e : Int} (hp : zpr p) : nI (yR p e) = 0 ↔ yR p e = 0 := by
  have := yR_lt (e := e) (zpr_pos hp)
  have := zpr_lt hp
  exact nI_z0 (by omega)
theorem zVB {p k i : Nat} {σ : zMem} {A : yT} (hp : zpr p) (h : zVal σ k i A) (ok : yOk p A) : yB (σ k i 8) A.1 42 ∧ yB (σ k i 9) A.2.1 42 ∧ yB (σ k i 10) A.2.2 42 := by
  have := zpr_lt hp
  obtain ⟨h1, h2, h3⟩ := h
  obtain ⟨o1, o2, o3⟩ := ok
  rw [h1, h2, h3]
  exact ⟨yB_n (by omega), yB_n (by omega), yB_n (by omega)⟩
/-- the same but for a figure's numbers and what is kept for a moment -/
def ySame (σ σ' : zMem) (k i : Nat) : Prop := ∀ k' i' j', ¬ (k' = k ∧ i' = i ∧ 8 ≤ j' ∧ j' ≤ 10) → k' ≠ 14 → σ' k' i' j' = σ k' i' j'
theorem ySame_put {σ : zMem} {k i : Nat} {x y z : Int32} : ySame σ (zput σ k i x y z) k i := by
  intro k' i' j' h _
  unfold zput zup
  by_cases h1 : k' = k
  · by_cases h2 : i' = i
    · have h8 : ¬ j' = 8 := fun g => h ⟨h1, h2, by omega, by omega⟩
      have h9 : ¬ j' = 9 := fun g => h ⟨h1, h2, by omega, by omega⟩
      have h10 : ¬ j' = 10 := fun g => h ⟨h1, h2, by omega, by omega⟩
      simp [h8, h9, h10]
    · simp [h2]
  · simp [h1]
theorem ySame_refl {σ : zMem} {k i : Nat} : ySame σ σ k i := fun _ _ _ _ _ => rfl
theorem ySame_14 {σ σ' σ'' : zMem} {k i k2 i2 : Nat} (h2 : k2 = 14) (h : ySame σ σ' k2 i2) (h' : ySame σ' σ'' k i) : ySame σ σ'' k i := by
  intro k' i' j' g g'
  rw [h' k' i' j' g g', h k' i' j' (fun q => g' (q.1.trans h2)) g']
def yOut (σ : zMem) (τ : zTmp) (k i : Nat) (F : Option yT) (o : Option zOut) : Prop := match F with
  | none => ∃ σ', o = some (.inl (some (zI 0)), (σ', τ)) ∧ ySame σ σ' k i
  | some A => ∃ σ', o = some (.inl (some (zI 1)), (σ', τ)) ∧ ySame σ σ' k i ∧ zVal σ' k i A
theorem zVal_put {σ : zMem} {k i : Nat} {x y z : Int32} {A : yT} (h1 : x = nI A.1) (h2 : y = nI A.2.1) (h3 : z = nI A.2.2) : zVal (zput σ k i x y z) k i A := ⟨by rw [zput_8, h1], by rw [zput_9, h2], by rw [zput_10, h3]⟩
theorem yOut_put {σ : zMem} {τ : zTmp} {k i : Nat} {x y z : Int32} {A : yT} (h1 : x = nI A.1) (h2 : y = nI A.2.1) (h3 : z = nI A.2.2) : yOut σ τ k i (some A) (some (.inl (some (zI 1)), (zput σ k i x y z, τ))) := ⟨_, rfl, ySame_put, zVal_put h1 h2 h3⟩
theorem c_lead {p : Nat} {σ : zMem} {a b : Int32} {e f : Int} {B C : Nat} (hp : zpr p) (hF : zField σ p) (h : yB a e B) (h' : yB b f C) : zlead σ a b = nI (yR p (yfs p e f)) := by
  unfold zlead yfs
  rw [cR hp hF h]
  by_cases g : yR p e = 0
  · rw [if_pos ((nI_R0 hp).mpr g), if_pos g, cR hp hF h']
  · rw [if_neg (fun k => g ((nI_R0 hp).mp k)), if_neg g, cR hp hF h]
theorem yOut_ln {p k i : Nat} {σ : zMem} {τ : zTmp} {a b c : Int32} {e f g : Int} {B C D : Nat} (hp : zpr p) (hF : zField σ p) (ha : yB a e B) (hb : yB b f C) (hc : yB c g D) (h1 : B * 42 ≤ 2147483647) (h2 : C * 42 ≤ 2147483647) (h3 : D * 42 ≤ 2147483647) : yOut σ τ k i (yLn p e f g) (zln σ τ k i a b c) := by
  have hl := c_lead hp hF ha hb
  have hk : zlnK σ a b = nI (zopp p (yR p (yfs p e f))) := by unfold zlnK; rw [hl, cV hp hF]
  unfold yLn zln
  rw [hl, hk]
  by_cases h0 : yR p (yfs p e f) = 0
  · rw [if_pos h0, if_pos ((nI_R0 hp).mpr h0)]
    exact ⟨_, rfl, ySame_refl⟩
  · rw [if_neg h0, if_neg (fun q => h0 ((nI_R0 hp).mp q))]
    exact yOut_put (cR hp hF (yB_mul ha (yV_B hp) h1)) (cR hp hF (yB_mul hb (yV_B hp) h2)) (cR hp hF (yB_mul hc (yV_B hp) h3))
theorem c_pow {p kp ip kl il : Nat} {σ : zMem} {K L : yT} (hp : zpr p) (hF : zField σ p) (hK : zVal σ kp ip K) (oK : yOk p K) (hL : zVal σ kl il L) (oL : yOk p L) : zpow σ kp ip kl il = nI (yR p (ye L K)) := by
  obtain ⟨k1, k2, k3⟩ := zVB hp hK oK
  obtain ⟨l1, l2, l3⟩ := zVB hp hL oL
  exact cR hp hF (yB_add (yB_add (yB_mul l1 k1 (by decide)) (yB_mul l2 k2 (by decide)) (by decide)) l3 (by decide))
theorem yle_iff {x1 y1 x2 y2 : Nat} (h1 : x1 < 43) (h2 : y1 < 43) (h3 : x2 < 43) (h4 : y2 < 43) : (nI x1 < nI x2 ∨ nI x1 = nI x2 ∧ nI y1 ≤ nI y2) ↔ yle x1 y1 x2 y2 := by
  unfold yle
  rw [nI_ltI (by omega) (by omega), nI_eq (by omega) (by omega), nI_leI (by omega) (by omega)]
theorem yOut_lc {p k i kl il kc ic : Nat} {σ : zMem} {τ : zTmp} {L K : yT} {first : Prop} (hp : zpr p) (hF : zField σ p) (hL : zVal σ kl il L) (nL : yLine p L) (hK : zVal σ kc ic K) (oK : yOk p K) (hf : (σ k i 1 = 3 ∨ σ k i 1 = 5) ↔ first) : yOut σ τ k i (yLC p first L K) (zlc σ τ k i kl il kc ic) := by
  have h0 := zpr_pos hp
  have h43 := (zpr_lt hp).2
  have hpw := c_pow hp hF hK oK hL nL.1
  obtain ⟨k1, k2, k3⟩ := zVB hp hK oK
  obtain ⟨l1, l2, l3⟩ := zVB hp hL nL.1
  have hn : zlcN σ kl il = nI (yR p (yn L)) := cR hp hF (yB_add (yB_mul l1 l1 (by decide)) (yB_mul l2 l2 (by decide)) (by decide))
  have hn0 : ¬ yR p (yn L) = 0 := fun g => y_n hp nL ((yR_0 h0).mp g)
  have hn0' : ¬ nI (yR p (yn L)) = 0 := fun g => hn0 ((nI_R0 hp).mp g)
  have hr : zlcR σ kl il kc ic = yro p (yR p (yds L K)) := by
    unfold zlcR
    rw [hpw, hn, cR hp hF (yB_sub (yB_mul k3 (yR_B hp) (by decide)) (yB_mul (yR_B hp) (yR_B hp) (by decide)) (by decide))]
    have e : yR p ((K.2.2 : Int) * (yR p (yn L) : Nat) - (yR p (ye L K) : Nat) * (yR p (ye L K) : Nat)) = yR p (yds L K) := yR_E (yE_sub (yE_mul yE_refl (yE_R h0)) (yE_mul (yE_R h0) (yE_R h0)))
    rw [e]
    have := yR_lt (e := yds L K) h0
    rw [nI_tab (by omega), hF.2.2 _ this]
  unfold yLC zlc
  rw [hn, hr]
  unfold yro
  cases hq : yrt p (yR p (yds L K)) with
  | none =>
    have g : nI (yR p (yn L)) = 0 ∨ (-1 : Int32) < 0 := Or.inr (by decide)
    simp only []
    rw [if_pos g]
    exact ⟨_, rfl, ySame_refl⟩
  | some r =>
    obtain ⟨r1, _⟩ := yrt_some hp hq
    have g : ¬ (nI (yR p (yn L)) = 0 ∨ nI r < 0) := fun h => h.elim hn0' (nI_pos (by omega))
    simp only []
    rw [if_neg g]
    have hr' : zlcR σ kl il kc ic = nI r := by rw [hr]; unfold yro; rw [hq]
    have rb : yB (nI r) r 42 := yB_n (by omega)
    have eb : yB (zpow σ kc ic kl il) (yR p (ye L K) : Nat) 42 := by rw [hpw]; exact yR_B hp
    have nb : yB (zlcN σ kl il) (yR p (yn L) : Nat) 42 := by rw [hn]; exact yR_B hp
    rw [← hr'] at rb
    have x1 : zlcX1 σ kl il kc ic = nI (yPx p L K r) := by
      unfold zlcX1
      rw [cQ hp hF (yB_sub (yB_mul (yB_neg l1 (by decide)) eb (by decide)) (yB_mul l2 rb (by decide)) (by decide)) nb, cR hp hF (yB_add k1 (yR_B hp) (by decide))]
      unfold yPx
      rw [yV_E (yE_R h0)]
      exact congrArg nI (yR_E (yE_add yE_refl (yE_trans (yE_R h0) (yE_mul (yE_sub (yE_mul yE_refl (yE_R h0)) yE_refl) yE_refl))))
    have y1 : zlcY1 σ kl il kc ic = nI (yPy p L K r) := by
      unfold zlcY1
      rw [cQ hp hF (yB_add (yB_mul (yB_neg l2 (by decide)) eb (by decide)) (yB_mul l1 rb (by decide)) (by decide)) nb, cR hp hF (yB_add k2 (yR_B hp) (by decide))]
      unfold yPy
      rw [yV_E (yE_R h0)]
      exact congrArg nI (yR_E (yE_add yE_refl (yE_trans (yE_R h0) (yE_mul (yE_add (yE_mul yE_refl (yE_R h0)) yE_refl) yE_refl))))
    have x2 : zlcX2 σ kl il kc ic = nI (yPx p L K (-r)) := by
      unfold zlcX2
      rw [cQ hp hF (yB_add (yB_mul (yB_neg l1 (by decide)) eb (by decide)) (yB_mul l2 rb (by decide)) (by decide)) nb, cR hp hF (yB_add k1 (yR_B hp) (by decide))]
      unfold yPx
      rw [yV_E (yE_R h0)]
      exact congrArg nI (yR_E (yE_add yE_refl (yE_trans (yE_R h0) (yE_mul (yE_trans (yE_add (yE_mul yE_refl (yE_R h0)) yE_refl) (yE_eq (by rw [Int.mul_neg]; omega))) yE_refl))))
    have y2 : zlcY2 σ kl il kc ic = nI (yPy p L K (-r)) := by
      unfold zlcY2
      rw [cQ hp hF (yB_sub (yB_mul (yB_neg l2 (by decide)) eb (by decide)) (yB_mul l1 rb (by decide)) (by decide)) nb, cR hp hF (yB_add k2 (yR_B hp) (by decide))]
      unfold yPy
      rw [yV_E (yE_R h0)]
      exact congrArg nI (yR_E (yE_add yE_refl (yE_trans (yE_R h0) (yE_mul (yE_trans (yE_sub (yE_mul yE_refl (yE_R h0)) yE_refl) (yE_eq (by rw [Int.mul_neg]; omega))) yE_refl))))
    obtain ⟨b1, b2⟩ := yP_lt (L := L) (K := K) (r := r) hp
    obtain ⟨b3, b4⟩ := yP_lt (L := L) (K := K) (r := -r) hp
    rw [x1, y1, x2, y2, cRn hp hF b1, cRn hp hF b2, cRn hp hF b3, cRn hp hF b4]
    have hpk : zpick (σ k i 1 = 3 ∨ σ k i 1 = 5) (nI (yPx p L K r)) (nI (yPy p L K r)) (nI (yPx p L K (-r))) (nI (yPy p L K (-r))) ↔ (yle (yPx p L K r) (yPy p L K r) (yPx p L K (-r)) (yPy p L K (-r)) ↔ first) := by
      unfold zpick
      rw [yle_iff (by omega) (by omega) (by omega) (by omega), hf]
    unfold ypick
    by_cases hh : yle (yPx p L K r) (yPy p L K r) (yPx p L K (-r)) (yPy p L K (-r)) ↔ first
    · rw [if_pos hh, if_pos (hpk.mpr hh)]
      exact yOut_put rfl rfl rfl
    · rw [if_neg hh, if_neg (fun q => hh (hpk.mp q))]
      exact yOut_put rfl rfl rfl
theorem yOut_cr {p k i : Nat} {σ : zMem} {τ : zTmp} {u v s : Int32} {e f g : Int} {B C D : Nat} (hp : zpr p) (hF : zField σ p) (ha : yB u e B) (hb : yB v f C) (hc : yB s g D) : yOut σ τ k i (if yR p g = 0 then none else some (yR p e, yR p f, yR p g)) (zcr σ τ k i u v s) := by
  unfold zcr
  rw [cR hp hF ha, cR hp hF hb, cR hp hF hc]
  by_cases h : yR p g = 0
  · rw [if_pos h, if_pos ((nI_R0 hp).mpr h)]
    exact ⟨_, rfl, ySame_put⟩
  · rw [if_neg h, if_neg (fun q => h ((nI_R0 hp).mp q))]
    exact yOut_put rfl rfl rfl

