/-! ===== the two environments: the class's objects, the reference's ===== -/
/-- kinds: 0 PrimePlane, 1 Judge, 2 Compass, 3 Field, 4 the row's figures (43: nobody), 5 the row, 6 the trail's row, 7 ClaimRow, 8 Trail, 9 inverses, 10 roots, 11 and 12 the rows' arrays, 13 the trail's figures (43: nobody), 14 chord, cross, ring, 15 the array of claims, 16 the claims (20: nothing) -/
def zFig : zSD := [none, none, none, none, none, none, none, none, none, none, none, none, none]
def zEC : zEnv := fun k => match k with
  | 0 => (1, .inl (8, [some (1, 0), some (2, 0), some (3, 0), some (5, 0), some (7, 0), some (8, 0)]))
  | 1 => (1, .inl (5, [some (2, 0), some (3, 0), some (14, 1), some (14, 2)]))
  | 2 => (1, .inl (2, [some (3, 0), some (14, 0)]))
  | 3 => (1, .inl (3, [none, some (9, 0), some (10, 0)]))
  | 4 => (44, .inl (4, zFig))
  | 5 => (1, .inl (6, [some (11, 0), some (4, 43), none]))
  | 6 => (1, .inl (6, [some (12, 0), some (13, 43), none]))
  | 7 => (1, .inl (1, [some (15, 0), some (16, 20), none]))
  | 8 => (1, .inl (7, [some (6, 0), none]))
  | 9 => (1, .inr (.inl 43))
  | 10 => (1, .inr (.inl 43))
  | 11 => (1, .inr (.inr (43, 2, 4)))
  | 12 => (1, .inr (.inr (43, 2, 13)))
  | 13 => (44, .inl (4, zFig))
  | 14 => (3, .inl (4, zFig))
  | 15 => (1, .inr (.inr (20, 1, 16)))
  | 16 => (21, .inl (0, [none, none, none, none, none]))
  | _ => (0, .inr (.inl 0))
def zEokB (E : zEnv) : Bool := (List.range 20).all fun k => match (E k).2 with
  | .inl o => o.2.all fun d => match d with
    | none => true
    | some q => decide (q.1 ≠ 99)
  | .inr (.inl _) => true
  | .inr (.inr o) => decide (o.2.2 ≠ 99)
theorem zEok_of {E : zEnv} (h : zEokB E = true) : zEok E := by
  have h0 : ∀ k, k < 20 → _ := fun k hk => List.all_eq_true.mp h k (List.mem_range.mpr hk)
  refine ⟨fun k i o j d hk _ hE hd => ?_, fun k o hk hE => ?_⟩
  · have h1 := h0 k hk
    simp only [hE] at h1
    have h2 := List.all_eq_true.mp h1 _ (List.mem_of_getElem? hd)
    simpa using h2
  · have h1 := h0 k hk
    simp only [hE] at h1
    simpa using h1
theorem zECok : zEok zEC := zEok_of (by decide)
theorem zni : ∀ x : Int32, (false = true → x = 0 ∨ x = 1) → narrow .int (.int x) = .int x ∧ fits .int (.int x) = true := fun _ _ => ⟨rfl, rfl⟩
theorem znz : ∀ x : Int32, (true = true → x = 0 ∨ x = 1) → narrow .boolean (.int x) = .int x ∧ fits .boolean (.int x) = true := by
  intro x h
  rcases h rfl with rfl | rfl <;> exact ⟨by decide, by decide⟩
/-! the law's own environment: the class's objects, and the script -/
def zenc (x : Int32) : Option (Nat × Nat) := some (x.toBitVec.toNat, 0)
theorem zdec_enc (x : Int32) : zdec (zenc x) = x := by
  show Int32.ofNat x.toBitVec.toNat = x
  apply Int32.toBitVec_inj.mp
  rw [Int32.toBitVec_ofNat']
  simp
def zES (sc : List Int32) : zEnv := fun k => if k = 97 then (1, .inl (97, sc.map zenc)) else zEC k
theorem zES_lo {sc : List Int32} {k : Nat} (h : k ≠ 97) : zES sc k = zEC k := if_neg h
theorem zES_ex (sc : List Int32) : zEx zEC (zES sc) := ⟨fun k hk => zES_lo (by omega), by decide⟩
theorem zES_scr (sc : List Int32) : zscr (zES sc) = sc := by
  show (sc.map zenc).map zdec = sc
  rw [List.map_map]
  have : zdec ∘ zenc = id := funext zdec_enc
  rw [this, List.map_id]
theorem zES_ok (sc : List Int32) : zEok (zES sc) := by
  obtain ⟨h1, h2⟩ := zECok
  refine ⟨fun k i o j d hk hi hE hd => ?_, fun k o hk hE => ?_⟩
  · rw [zES_lo (by omega)] at hi hE
    exact h1 k i o j d hk hi hE hd
  · rw [zES_lo (by omega)] at hE
    exact h2 k o hk hE
