theorem zla_30 {σ : zMem} {a b c : Int32} : zla σ a b c 3 0 0 = zM σ a := by simp [zla, zup]
theorem zla_31 {σ : zMem} {a b c : Int32} : zla σ a b c 3 0 1 = zM σ b := by simp [zla, zup]
theorem zla_32 {σ : zMem} {a b c : Int32} : zla σ a b c 3 0 2 = zM σ c := by simp [zla, zup]
/-- the same but for what is laid -/
def zL3 (σ σ' : zMem) : Prop := ∀ k i j, k ≠ 3 → σ' k i j = σ k i j
theorem zL3_refl {σ : zMem} : zL3 σ σ := fun _ _ _ _ => rfl
theorem zL3_trans {σ σ' σ'' : zMem} (h : zL3 σ σ') (h' : zL3 σ' σ'') : zL3 σ σ'' := fun k i j hk => (h' k i j hk).trans (h k i j hk)
theorem zL3_la {σ : zMem} {a b c : Int32} : zL3 σ (zla σ a b c) := by
  intro k i j hk
  simp [zla, zup, hk]
theorem zL3_g {σ σ' : zMem} (h : zL3 σ σ') (j w : Nat) : zg σ' j w = zg σ j w := h 1 0 _ (by decide)
