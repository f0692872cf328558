/-! ===== the class's cells read and written ===== -/
def zfig (k i : Nat) : Prop := (k = 4 ∧ i < 44) ∨ (k = 13 ∧ i < 44) ∨ (k = 14 ∧ i < 3)
theorem zfig4 {i : Nat} (h : i < 44) : zfig 4 i := Or.inl ⟨rfl, h⟩
theorem zfig13 {i : Nat} (h : i < 44) : zfig 13 i := Or.inr (Or.inl ⟨rfl, h⟩)
theorem zfig14 {i : Nat} (h : i < 3) : zfig 14 i := Or.inr (Or.inr ⟨rfl, h⟩)
theorem zfig_E {k i : Nat} (h : zfig k i) : k < 20 ∧ i < (zEC k).1 ∧ (zEC k).2 = .inl (4, zFig) := by
  rcases h with ⟨rfl, h⟩ | ⟨rfl, h⟩ | ⟨rfl, h⟩ <;> exact ⟨by decide, h, rfl⟩
theorem zgv_fig {k i j : Nat} {σ : zMem} (h : zfig k i) (hj : zFig[j]? = some none) : zgv zEC 4 j k i σ = some (zI (σ k i j)) := by
  obtain ⟨h1, h2, h3⟩ := zfig_E h
  unfold zgv
  rw [if_pos ⟨h1, h2⟩, h3]
  simp [hj]
theorem zpok_fig {k i j : Nat} {b : Bool} {x : Int32} (h : zfig k i) (hj : zFig[j]? = some none) (hb : b = true → x = 0 ∨ x = 1) : zpok zEC 4 j b k i x := by
  obtain ⟨h1, h2, h3⟩ := zfig_E h
  exact ⟨hb, h1, h2, _, h3, hj⟩
theorem zrec_fig {k i : Nat} (h : zfig k i) : zrec zEC 4 (.inr (k, i)) = true := by
  obtain ⟨h1, h2, h3⟩ := zfig_E h
  simp [zrec, h1, h2, h3]
theorem zgf_0 {k i : Nat} {σ : zMem} (h : zfig k i) : zgv zEC 4 0 k i σ = some (.inl (.int (σ k i 0))) := zgv_fig h rfl
theorem zgf_1 {k i : Nat} {σ : zMem} (h : zfig k i) : zgv zEC 4 1 k i σ = some (.inl (.int (σ k i 1))) := zgv_fig h rfl
theorem zpf_1 {k i : Nat} {x : Int32} (h : zfig k i) : zpok zEC 4 1 false k i x := zpok_fig h rfl (fun h => by cases h)
theorem zgf_2 {k i : Nat} {σ : zMem} (h : zfig k i) : zgv zEC 4 2 k i σ = some (.inl (.int (σ k i 2))) := zgv_fig h rfl
theorem zpf_2 {k i : Nat} {x : Int32} (h : zfig k i) : zpok zEC 4 2 false k i x := zpok_fig h rfl (fun h => by cases h)
theorem zgf_3 {k i : Nat} {σ : zMem} (h : zfig k i) : zgv zEC 4 3 k i σ = some (.inl (.int (σ k i 3))) := zgv_fig h rfl
theorem zpf_3 {k i : Nat} {x : Int32} (h : zfig k i) : zpok zEC 4 3 false k i x := zpok_fig h rfl (fun h => by cases h)
theorem zgf_4 {k i : Nat} {σ : zMem} (h : zfig k i) : zgv zEC 4 4 k i σ = some (.inl (.int (σ k i 4))) := zgv_fig h rfl
theorem zpf_4 {k i : Nat} {x : Int32} (h : zfig k i) : zpok zEC 4 4 false k i x := zpok_fig h rfl (fun h => by cases h)
theorem zgf_5 {k i : Nat} {σ : zMem} (h : zfig k i) : zgv zEC 4 5 k i σ = some (.inl (.int (σ k i 5))) := zgv_fig h rfl
theorem zpf_5 {k i : Nat} {x : Int32} (h : zfig k i) : zpok zEC 4 5 false k i x := zpok_fig h rfl (fun h => by cases h)
theorem zgf_6 {k i : Nat} {σ : zMem} (h : zfig k i) : zgv zEC 4 6 k i σ = some (.inl (.int (σ k i 6))) := zgv_fig h rfl
theorem zpf_6 {k i : Nat} {x : Int32} (h : zfig k i) : zpok zEC 4 6 false k i x := zpok_fig h rfl (fun h => by cases h)
theorem zgf_7 {k i : Nat} {σ : zMem} (h : zfig k i) : zgv zEC 4 7 k i σ = some (.inl (.int (σ k i 7))) := zgv_fig h rfl
theorem zpf_7 {k i : Nat} {x : Int32} (h : zfig k i) (hb : x = 0 ∨ x = 1) : zpok zEC 4 7 true k i x := zpok_fig h rfl (fun _ => hb)
theorem zgf_8 {k i : Nat} {σ : zMem} (h : zfig k i) : zgv zEC 4 8 k i σ = some (.inl (.int (σ k i 8))) := zgv_fig h rfl
theorem zpf_8 {k i : Nat} {x : Int32} (h : zfig k i) : zpok zEC 4 8 false k i x := zpok_fig h rfl (fun h => by cases h)
theorem zgf_9 {k i : Nat} {σ : zMem} (h : zfig k i) : zgv zEC 4 9 k i σ = some (.inl (.int (σ k i 9))) := zgv_fig h rfl
theorem zpf_9 {k i : Nat} {x : Int32} (h : zfig k i) : zpok zEC 4 9 false k i x := zpok_fig h rfl (fun h => by cases h)
theorem zgf_10 {k i : Nat} {σ : zMem} (h : zfig k i) : zgv zEC 4 10 k i σ = some (.inl (.int (σ k i 10))) := zgv_fig h rfl
theorem zpf_10 {k i : Nat} {x : Int32} (h : zfig k i) : zpok zEC 4 10 false k i x := zpok_fig h rfl (fun h => by cases h)
theorem zgf_11 {k i : Nat} {σ : zMem} (h : zfig k i) : zgv zEC 4 11 k i σ = some (.inl (.int (σ k i 11))) := zgv_fig h rfl
theorem zpf_11 {k i : Nat} {x : Int32} (h : zfig k i) (hb : x = 0 ∨ x = 1) : zpok zEC 4 11 true k i x := zpok_fig h rfl (fun _ => hb)
theorem zgf_12 {k i : Nat} {σ : zMem} (h : zfig k i) : zgv zEC 4 12 k i σ = some (.inl (.int (σ k i 12))) := zgv_fig h rfl
theorem zpf_12 {k i : Nat} {x : Int32} (h : zfig k i) (hb : x = 0 ∨ x = 1) : zpok zEC 4 12 true k i x := zpok_fig h rfl (fun _ => hb)
theorem zgs_0_0 {σ : zMem} : zgv zEC 8 0 0 0 σ = some (.inr (1, 0)) := rfl
theorem zgs_0_1 {σ : zMem} : zgv zEC 8 1 0 0 σ = some (.inr (2, 0)) := rfl
theorem zgs_0_2 {σ : zMem} : zgv zEC 8 2 0 0 σ = some (.inr (3, 0)) := rfl
theorem zgs_0_3 {σ : zMem} : zgv zEC 8 3 0 0 σ = some (.inr (5, 0)) := rfl
theorem zgs_0_4 {σ : zMem} : zgv zEC 8 4 0 0 σ = some (.inr (7, 0)) := rfl
theorem zgs_0_5 {σ : zMem} : zgv zEC 8 5 0 0 σ = some (.inr (8, 0)) := rfl
theorem zrs_0 : zrec zEC 8 (.inr (0, 0)) = true := rfl
theorem zgs_1_0 {σ : zMem} : zgv zEC 5 0 1 0 σ = some (.inr (2, 0)) := rfl
theorem zgs_1_1 {σ : zMem} : zgv zEC 5 1 1 0 σ = some (.inr (3, 0)) := rfl
theorem zgs_1_2 {σ : zMem} : zgv zEC 5 2 1 0 σ = some (.inr (14, 1)) := rfl
theorem zgs_1_3 {σ : zMem} : zgv zEC 5 3 1 0 σ = some (.inr (14, 2)) := rfl
theorem zrs_1 : zrec zEC 5 (.inr (1, 0)) = true := rfl
theorem zgs_2_0 {σ : zMem} : zgv zEC 2 0 2 0 σ = some (.inr (3, 0)) := rfl
theorem zgs_2_1 {σ : zMem} : zgv zEC 2 1 2 0 σ = some (.inr (14, 0)) := rfl
theorem zrs_2 : zrec zEC 2 (.inr (2, 0)) = true := rfl
theorem zgs_3_0 {σ : zMem} : zgv zEC 3 0 3 0 σ = some (.inl (.int (σ 3 0 0))) := rfl
theorem zps_3_0 {x : Int32} : zpok zEC 3 0 false 3 0 x := ⟨fun h => (by cases h), by decide, by decide, _, rfl, rfl⟩
theorem zgs_3_1 {σ : zMem} : zgv zEC 3 1 3 0 σ = some (.inr (9, 0)) := rfl
theorem zgs_3_2 {σ : zMem} : zgv zEC 3 2 3 0 σ = some (.inr (10, 0)) := rfl
theorem zrs_3 : zrec zEC 3 (.inr (3, 0)) = true := rfl
theorem zgs_5_0 {σ : zMem} : zgv zEC 6 0 5 0 σ = some (.inr (11, 0)) := rfl
theorem zgs_5_1 {σ : zMem} : zgv zEC 6 1 5 0 σ = some (.inr (4, 43)) := rfl
theorem zgs_5_2 {σ : zMem} : zgv zEC 6 2 5 0 σ = some (.inl (.int (σ 5 0 2))) := rfl
theorem zps_5_2 {x : Int32} : zpok zEC 6 2 false 5 0 x := ⟨fun h => (by cases h), by decide, by decide, _, rfl, rfl⟩
theorem zrs_5 : zrec zEC 6 (.inr (5, 0)) = true := rfl
theorem zgs_6_0 {σ : zMem} : zgv zEC 6 0 6 0 σ = some (.inr (12, 0)) := rfl
theorem zgs_6_1 {σ : zMem} : zgv zEC 6 1 6 0 σ = some (.inr (13, 43)) := rfl
theorem zgs_6_2 {σ : zMem} : zgv zEC 6 2 6 0 σ = some (.inl (.int (σ 6 0 2))) := rfl
theorem zps_6_2 {x : Int32} : zpok zEC 6 2 false 6 0 x := ⟨fun h => (by cases h), by decide, by decide, _, rfl, rfl⟩
theorem zrs_6 : zrec zEC 6 (.inr (6, 0)) = true := rfl
theorem zgs_7_0 {σ : zMem} : zgv zEC 1 0 7 0 σ = some (.inr (15, 0)) := rfl
theorem zgs_7_1 {σ : zMem} : zgv zEC 1 1 7 0 σ = some (.inr (16, 20)) := rfl
theorem zgs_7_2 {σ : zMem} : zgv zEC 1 2 7 0 σ = some (.inl (.int (σ 7 0 2))) := rfl
theorem zps_7_2 {x : Int32} : zpok zEC 1 2 false 7 0 x := ⟨fun h => (by cases h), by decide, by decide, _, rfl, rfl⟩
theorem zrs_7 : zrec zEC 1 (.inr (7, 0)) = true := rfl
theorem zgs_8_0 {σ : zMem} : zgv zEC 7 0 8 0 σ = some (.inr (6, 0)) := rfl
theorem zgs_8_1 {σ : zMem} : zgv zEC 7 1 8 0 σ = some (.inl (.int (σ 8 0 1))) := rfl
theorem zps_8_1 {x : Int32} : zpok zEC 7 1 false 8 0 x := ⟨fun h => (by cases h), by decide, by decide, _, rfl, rfl⟩
theorem zrs_8 : zrec zEC 7 (.inr (8, 0)) = true := rfl
theorem zgc_0 {i : Nat} {σ : zMem} (h : i < 21) : zgv zEC 0 0 16 i σ = some (.inl (.int (σ 16 i 0))) := by unfold zgv; rw [if_pos ⟨by decide, h⟩]; rfl
theorem zpc_0 {i : Nat} {x : Int32} (h : i < 21) : zpok zEC 0 0 false 16 i x := ⟨fun h => (by cases h), by decide, h, _, rfl, rfl⟩
theorem zgc_1 {i : Nat} {σ : zMem} (h : i < 21) : zgv zEC 0 1 16 i σ = some (.inl (.int (σ 16 i 1))) := by unfold zgv; rw [if_pos ⟨by decide, h⟩]; rfl
theorem zpc_1 {i : Nat} {x : Int32} (h : i < 21) : zpok zEC 0 1 false 16 i x := ⟨fun h => (by cases h), by decide, h, _, rfl, rfl⟩
theorem zgc_2 {i : Nat} {σ : zMem} (h : i < 21) : zgv zEC 0 2 16 i σ = some (.inl (.int (σ 16 i 2))) := by unfold zgv; rw [if_pos ⟨by decide, h⟩]; rfl
theorem zpc_2 {i : Nat} {x : Int32} (h : i < 21) : zpok zEC 0 2 false 16 i x := ⟨fun h => (by cases h), by decide, h, _, rfl, rfl⟩
theorem zgc_3 {i : Nat} {σ : zMem} (h : i < 21) : zgv zEC 0 3 16 i σ = some (.inl (.int (σ 16 i 3))) := by unfold zgv; rw [if_pos ⟨by decide, h⟩]; rfl
theorem zpc_3 {i : Nat} {x : Int32} (h : i < 21) : zpok zEC 0 3 false 16 i x := ⟨fun h => (by cases h), by decide, h, _, rfl, rfl⟩
theorem zgc_4 {i : Nat} {σ : zMem} (h : i < 21) : zgv zEC 0 4 16 i σ = some (.inl (.int (σ 16 i 4))) := by unfold zgv; rw [if_pos ⟨by decide, h⟩]; rfl
theorem zpc_4 {i : Nat} {x : Int32} (h : i < 21) : zpok zEC 0 4 false 16 i x := ⟨fun h => (by cases h), by decide, h, _, rfl, rfl⟩
theorem zrc {i : Nat} (h : i < 21) : zrec zEC 0 (.inr (16, i)) = true := by simp [zrec, zEC, h]
theorem zald_row {E : zEnv} {k i n : Nat} {j : Int32} {s : zAS} (hk : k < 20) (hi : i < (E k).1) (hE : (E k).2 = .inr (.inl n)) (h0 : ¬ j < 0) (hj : j.toNatClampNeg < n) : zald E k i j s = some (.inl (.int (s.1 k i j.toNatClampNeg))) := by
  unfold zald
  rw [if_neg h0, if_neg (by omega), if_neg (by omega), if_neg (by omega), if_pos ⟨hk, hi⟩, hE]
  simp [hj]
theorem zast_row {E : zEnv} {k i n : Nat} {j x : Int32} {s : zAS} (hk : k < 20) (hi : i < (E k).1) (hE : (E k).2 = .inr (.inl n)) (h0 : ¬ j < 0) (hj : j.toNatClampNeg < n) : zast E k i j x s = some (zup s.1 k i j.toNatClampNeg x, s.2) := by
  unfold zast
  rw [if_neg h0, if_neg (by omega), if_pos ⟨hk, hi⟩, hE]
  simp [hj]
theorem zald_tab {E : zEnv} {i : Nat} {j : Int32} {s : zAS} (hi : i < 4) (h0 : ¬ j < 0) (hj : j.toNatClampNeg < (zTab i).length) : zald E 98 i j s = some (.inl (.int ((zTab i).getD j.toNatClampNeg 0))) := by
  unfold zald
  rw [if_neg h0, if_neg (by decide), if_neg (by decide), if_pos rfl, if_pos ⟨hi, hj⟩]
theorem zaald_row {E : zEnv} {t k i n k2 : Nat} {j : Int32} (hk : k < 20) (hi : i < (E k).1) (hE : (E k).2 = .inr (.inr (n, t, k2))) (h0 : ¬ j < 0) (hj : j.toNatClampNeg < n) : zaald E t k i j = some (.inr (k2, j.toNatClampNeg)) := by
  unfold zaald
  rw [if_neg h0, if_pos ⟨hk, hi⟩, hE]
  simp [hj]
theorem zk1_int {x : Int32} : zk1 (some (.inl (.int x))) = some (.inl (.int x)) := rfl
theorem zk1_ref {q : Nat × Nat} : zk1 (some (.inr q)) = some (.inr q) := rfl
theorem zk1_no : zk1 none = none := rfl
theorem zk1_long {x : Int64} : zk1 (some (.inl (.long x))) = none := rfl
theorem zc1_int {x : Int32} : zc1 (.inl (.int x)) = true := rfl
theorem zc1_ref {q : Nat × Nat} : zc1 (.inr q) = true := rfl
theorem zcat_int {x : Int32} : zcat (.inl (.int x)) = 1 := rfl
theorem zcat_long {x : Int64} : zcat (.inl (.long x)) = 2 := rfl
theorem zcat_ref {q : Nat × Nat} : zcat (.inr q) = 1 := rfl
theorem zfin_ret {σ : zMem} {τ : zTmp} {v : Option zAV} (h : zrok (.inl v) = true) : zfin τ.length (some (.inl v, (σ, τ))) = some (.inl v, (σ, τ)) := by
  unfold zfin
  simp [h]
theorem zfin_thr {σ : zMem} {τ : zTmp} {e : Nat} : zfin τ.length (some (.inr e, (σ, τ))) = some (.inr e, (σ, τ)) := by
  unfold zfin
  simp [zrok]
theorem zrok_int {x : Int32} : zrok (.inl (some (.inl (.int x)))) = true := rfl
theorem zrok_no : zrok (.inl none) = true := rfl
theorem zrok_ref {k i : Nat} (h : k ≠ 99) : zrok (.inl (some (.inr (k, i)))) = true := by simp [zrok, zfr, h]
theorem zfin_int {x : Int32} {σ : zMem} {τ : zTmp} : zfin τ.length (some (.inl (some (.inl (.int x))), (σ, τ))) = some (.inl (some (.inl (.int x))), (σ, τ)) := zfin_ret rfl
theorem zfin_long {x : Int64} {σ : zMem} {τ : zTmp} : zfin τ.length (some (.inl (some (.inl (.long x))), (σ, τ))) = some (.inl (some (.inl (.long x))), (σ, τ)) := zfin_ret rfl
theorem zfin_dbl {x : UInt64} {σ : zMem} {τ : zTmp} : zfin τ.length (some (.inl (some (.inl (.double x))), (σ, τ))) = some (.inl (some (.inl (.double x))), (σ, τ)) := zfin_ret rfl
theorem zfin_void {σ : zMem} {τ : zTmp} : zfin τ.length (some (.inl none, (σ, τ))) = some (.inl none, (σ, τ)) := zfin_ret rfl
theorem zfin_ref {k i : Nat} {σ : zMem} {τ : zTmp} (h : k ≠ 99) : zfin τ.length (some (.inl (some (.inr (k, i))), (σ, τ))) = some (.inl (some (.inr (k, i))), (σ, τ)) := zfin_ret (zrok_ref h)
theorem zfin_r4 {i : Nat} {σ : zMem} {τ : zTmp} : zfin τ.length (some (.inl (some (.inr (4, i))), (σ, τ))) = some (.inl (some (.inr (4, i))), (σ, τ)) := zfin_ref (by decide)
theorem zfin_r13 {i : Nat} {σ : zMem} {τ : zTmp} : zfin τ.length (some (.inl (some (.inr (13, i))), (σ, τ))) = some (.inl (some (.inr (13, i))), (σ, τ)) := zfin_ref (by decide)
theorem zfin_r16 {i : Nat} {σ : zMem} {τ : zTmp} : zfin τ.length (some (.inl (some (.inr (16, i))), (σ, τ))) = some (.inl (some (.inr (16, i))), (σ, τ)) := zfin_ref (by decide)
theorem zreg {n : Int32} (h : ¬ n < 0) : 0 ≤ n := Int32.not_lt.mp h
theorem zcok0 {E : zEnv} {ci MC MS : Nat} {r : zAV} {st : List zAV} (h1 : zrec E ci r = true) (h2 : (st.map zcat).sum ≤ 8) : zcok E ci 0 0 MC MS r st (0, 0) := ⟨h1, h2, Nat.zero_le _, Nat.zero_le _⟩
theorem zrec_cl {i : Nat} (h : i < 21) : zrec zEC 0 (.inr (16, i)) = true := zrc h
theorem zif01 {c : Prop} (h : Decidable c) : (@ite Int32 c h 0 1) = 0 ∨ (@ite Int32 c h 0 1) = 1 := by split <;> simp
noncomputable def zb (c : Prop) : Int32 := @ite _ c (Classical.propDecidable c) 1 0
theorem zb_t {c : Prop} (h : c) : zb c = 1 := by unfold zb; rw [if_pos h]
theorem zb_f {c : Prop} (h : ¬ c) : zb c = 0 := by unfold zb; rw [if_neg h]
theorem zb01 {c : Prop} : zb c = 0 ∨ zb c = 1 := by
  by_cases h : c
  · exact Or.inr (zb_t h)
  · exact Or.inl (zb_f h)
theorem zb_True : zb True = 1 := zb_t trivial
theorem zb_False : zb False = 0 := zb_f id

