/-! ===== move ===== -/
/-! ===== claim ===== -/
theorem four {i : Nat} (h : i < 4) : i = 0 ∨ i = 1 ∨ i = 2 ∨ i = 3 := by omega
theorem five {i n : Nat} (h : i < n) (h4 : n ≤ 4) : 1 + i < 5 := by omega
theorem zCb_of {p m : Nat} {P : yP} {t : yTo} {σ σ' : zMem} (h : ∀ k i j, (k = 3 ∨ k = 4 ∨ k = 5 ∨ k = 9 ∨ k = 10) → σ' k i j = σ k i j) (hB : zCb p m P t σ) : zCb p m P t σ' := by
  obtain ⟨hF, hs, hr, ⟨h1, h2⟩, ho⟩ := hB
  have e4 : ∀ i' j', σ' 4 i' j' = σ 4 i' j' := fun i' j' => h 4 i' j' (by decide)
  refine ⟨zField_of (fun k' j' g => h k' 0 j' (by omega)) hF, (h 5 0 2 (by decide)).trans hs, fun j hj => (e4 j 0).trans (hr j hj), ⟨(e4 43 7).trans h1, (e4 43 11).trans h2⟩, fun j hj => ?_⟩
  obtain ⟨o1, o2, o3, o4, o5⟩ := ho j hj
  exact ⟨(e4 j 0).trans o1, (e4 j 1).trans o2, fun k hk => (e4 j (2 + k)).trans (o3 k hk), fun g => (e4 j 5).trans (o4 g), fun g => (e4 j 6).trans (o5 g)⟩
theorem zclm_ne {σ : zMem} {m : Nat} {w a b c d : Int32} {k i j : Nat} (h7 : k ≠ 7) (h16 : k ≠ 16) : zclm σ m w a b c d k i j = σ k i j := by
  unfold zclm
  rw [zup_ne (fun q => h16 q.1), zup_ne (fun q => h16 q.1), zup_ne (fun q => h16 q.1), zup_ne (fun q => h16 q.1), zup_ne (fun q => h16 q.1), zup_ne (fun q => h7 q.1)]
theorem zclm_7 {σ : zMem} {m : Nat} {w a b c d : Int32} : zclm σ m w a b c d 7 0 2 = nI (m + 1) := by
  unfold zclm
  rw [zup_ne (fun q => by omega), zup_ne (fun q => by omega), zup_ne (fun q => by omega), zup_ne (fun q => by omega), zup_ne (fun q => by omega), zup_eq]
theorem zclm_lo {σ : zMem} {m : Nat} {w a b c d : Int32} {k j : Nat} (h : ¬ k = m) : zclm σ m w a b c d 16 k j = σ 16 k j := by
  unfold zclm
  rw [zup_ne (fun q => h q.2.1), zup_ne (fun q => h q.2.1), zup_ne (fun q => h q.2.1), zup_ne (fun q => h q.2.1), zup_ne (fun q => h q.2.1), zup_ne (fun q => by omega)]
theorem zclm_16 {σ : zMem} {m : Nat} {w a b c d : Int32} : zclm σ m w a b c d 16 m 0 = w ∧ zclm σ m w a b c d 16 m 1 = a ∧ zclm σ m w a b c d 16 m 2 = b ∧ zclm σ m w a b c d 16 m 3 = c ∧ zclm σ m w a b c d 16 m 4 = d := by
  unfold zclm
  refine ⟨?_, ?_, ?_, ?_, ?_⟩
  · rw [zup_ne (fun q => by omega), zup_ne (fun q => by omega), zup_ne (fun q => by omega), zup_ne (fun q => by omega), zup_eq]
  · rw [zup_ne (fun q => by omega), zup_ne (fun q => by omega), zup_ne (fun q => by omega), zup_eq]
  · rw [zup_ne (fun q => by omega), zup_ne (fun q => by omega), zup_eq]
  · rw [zup_ne (fun q => by omega), zup_eq]
  · exact zup_eq
theorem zrclS_ne {σ : zMem} {m : Nat} {w a b c d : Int32} {k i j : Nat} (h2 : k ≠ 2) (h : ¬ (k = 0 ∧ (j = 0 ∨ j = 4))) : zrclS σ m w a b c d k i j = σ k i j := by
  unfold zrclS
  rw [zup_ne (fun q => h ⟨q.1, Or.inr q.2.2⟩)]
  unfold zrow
  rw [if_neg (fun q => h2 q.1)]
  exact zt0_ne (fun q => h ⟨q.1, Or.inl q.2⟩)
theorem zrclS_g {σ : zMem} {m : Nat} {w a b c d : Int32} {o k : Nat} : zg (zrclS σ m w a b c d) o k = zg σ o k := zrclS_ne (by decide) (fun q => by omega)
theorem zrclS_c {σ : zMem} {m : Nat} {w a b c d : Int32} {k j : Nat} (hj : j < 5) : zcf (zrclS σ m w a b c d) k j = if k = m then zsaidC w a b c d j else zcf σ k j := by
  show zrclS σ m w a b c d 2 0 (5 * k + j) = _
  unfold zrclS
  rw [zup_ne (fun q => by omega)]
  unfold zrow
  rw [if_pos ⟨rfl, rfl⟩]
  unfold va_cpy
  by_cases g : k = m
  · subst g
    rw [if_pos rfl, if_pos (by omega)]
    have : 0 + (5 * k + j - 5 * k) = j := by omega
    rw [this]
  · rw [if_neg g, if_neg (by omega)]
    rfl
theorem cl_na : ∀ w : Fin 8, ∀ k : Fin 4, (zent 1 (4 * nI w.1 + nI k.1) = -1 ↔ zna w.1 ≤ k.1) := by decide +kernel
theorem cl_7 : ∀ k : Fin 3, zent 1 (4 * nI 7 + nI k.1) = 1 := by decide +kernel
theorem cl_6 : ∀ s : Fin 3, zdgt (1100 * (nI s.1 + 1)) (zp4 0) = nI s.1 + 1 ∧ zdgt (1100 * (nI s.1 + 1)) (zp4 1) = nI s.1 + 1 ∧ zdgt (1100 * (nI s.1 + 1)) (zp4 2) = 0 ∧ zdgt (1100 * (nI s.1 + 1)) (zp4 3) = 0 := by decide +kernel
theorem cl_e6 : zent 1 (4 * nI 6) = 3 ∧ zent 1 (4 * nI 6 + 1) = 3 ∧ zent 1 (4 * nI 6 + 2) = -1 ∧ zent 1 (4 * nI 6 + 3) = -1 := by decide +kernel
theorem cl_th3 : ∀ w : Fin 8, (zth3 (nI w.1) ↔ 2 < zna w.1) := by
  have e : ∀ w : Fin 8, ((nI w.1 = 2 ∨ nI w.1 = 5 ∨ nI w.1 = 7) ↔ 2 < zna w.1) := by decide +kernel
  exact e
theorem cl_5 : ∀ w : Fin 8, (nI w.1 = 5 ↔ 3 < zna w.1) := by decide +kernel
theorem zsort_3 {w : Nat} (h : ywy w) : ∃ s, s < 3 ∧ zsort (nI w) = nI s := by
  rw [zsort_nI (ywy_lt h)]
  by_cases g : w < 10
  · exact ⟨0, by decide, by rw [if_pos g]; rfl⟩
  · by_cases g' : w < 20
    · exact ⟨1, by decide, by rw [if_neg g, if_pos g']; rfl⟩
    · exact ⟨2, by decide, by rw [if_neg g, if_neg g']; rfl⟩
def yclx (cl : yCl) (mc w : Nat) (qs : Nat → Option Nat) : yCl := (fun k => if k = mc then w else cl.1 k, fun k => if k = mc then qs else cl.2 k)

