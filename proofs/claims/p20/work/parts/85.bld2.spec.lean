/-! ===== build: one object after another ===== -/
def ySr (m : Nat) (P : yP) : Prop := ∀ j, j < m → ywyB (P.1 j) = true → ∃ a b, P.2 j 0 = some a ∧ P.2 j 1 = some b ∧ a < j ∧ b < j ∧ zsort (nI (P.1 a)) = zent 0 (3 * nI (P.1 j)) ∧ zsort (nI (P.1 b)) = zent 0 (3 * nI (P.1 j) + 1)
def zBi (p k m : Nat) (P : yP) (t : yTo) (cl : yCl) (σ : zMem) (τ : zTmp) (kk : Nat × Nat) : Prop :=
  (zSt p m 0 P t cl ∧ zSC p m 0 P t cl σ) ∧ (m ≤ k ∧ (k < 3 → m = k) ∧ (3 ≤ k → 3 ≤ m)) ∧ (∀ j, j < m → j < 3 → P.1 j = 0) ∧ ySr m P ∧ (∃ fs rest, τ = (14, zfw0) :: (1014, zfn0) :: (24, fs) :: rest ∧ ∀ j, j < m → fs j = zsort (nI (P.1 j))) ∧ (kk.1 ≤ 3 + k ∧ kk.2 ≤ 52 + 3 * k)
def zBg (n : Nat) (v9 v10 v11 v12 v13 v14 : Option zAV) : Prop := zfr' n v9 = true ∧ zfr' n v10 = true ∧ zfr' n v11 = true ∧ zfr' n v12 = true ∧ zfr' n v13 = true ∧ zfr' n v14 = true
def zBnx (sc : List Int32) (p k : Nat) (cl : yCl) (o : Option zOut) : Prop := ∃ m P t σ τ kk v9 v10 v11 v12 v13 v14, o = zev (zk_L_build sc) (176, [some (Sum.inr (0, 0)), some (Sum.inr (97, 0)), some (Sum.inl (Value.int (nI p))), some (Sum.inl (Value.int (24))), some (Sum.inr (99, 0)), some (Sum.inr (99, 1)), some (Sum.inr (99, 2)), some (Sum.inl (Value.int (nI m))), some (Sum.inl (Value.int (nI (k + 1)))), v9, v10, v11, v12, v13, v14], [], (σ, τ), kk) ∧ zBi p (k + 1) m P t cl σ τ kk ∧ zBg τ.length v9 v10 v11 v12 v13 v14
theorem zfr_mono {n n' : Nat} (h : n ≤ n') {v : Option zAV} (hv : zfr' n v = true) : zfr' n' v = true := by
  cases v with
  | none => rfl
  | some v =>
    cases v with
    | inl x => rfl
    | inr q =>
      simp only [zfr', zfr, Bool.or_eq_true, Bool.not_eq_true', beq_eq_false_iff_ne, decide_eq_true_eq] at hv ⊢
      omega
theorem zfr_k1 {n : Nat} {v : Option zAV} (hv : zfr' n v = true) : zfr' n (zk1 v) = true := by
  cases v with
  | none => rfl
  | some v =>
    cases v with
    | inl x => cases x <;> rfl
    | inr q => exact hv
theorem zBg.mono {n n' : Nat} {v9 v10 v11 v12 v13 v14 : Option zAV} (h : n ≤ n') (g : zBg n v9 v10 v11 v12 v13 v14) : zBg n' v9 v10 v11 v12 v13 v14 := ⟨zfr_mono h g.1, zfr_mono h g.2.1, zfr_mono h g.2.2.1, zfr_mono h g.2.2.2.1, zfr_mono h g.2.2.2.2.1, zfr_mono h g.2.2.2.2.2⟩
section BLD
variable {sc : List Int32} {p m k : Nat} {P : yP} {t : yTo} {cl : yCl} {σ : zMem} {τ rest : zTmp} {kk : Nat × Nat} {fs : Nat → Int32} {v9 v10 v11 v12 v13 v14 : Option zAV}
theorem nI16 : (16 : Int32) = nI 16 := rfl
theorem zbl_head (hk : k < 24) (hsc : sc.length < 1000) (h1 : kk.1 ≤ 40) (h2 : kk.2 ≤ 200) : ∃ x w, w < 16 ∧ zev (zk_L_build sc) (176, [some (Sum.inr (0, 0)), some (Sum.inr (97, 0)), some (Sum.inl (Value.int (nI p))), some (Sum.inl (Value.int (24))), some (Sum.inr (99, 0)), some (Sum.inr (99, 1)), some (Sum.inr (99, 2)), some (Sum.inl (Value.int (nI m))), some (Sum.inl (Value.int (nI k))), v9, v10, v11, v12, v13, v14], [], (σ, τ), kk) = zev (zk_L_build sc) (210, [some (Sum.inr (0, 0)), some (Sum.inr (97, 0)), some (Sum.inl (Value.int (nI p))), some (Sum.inl (Value.int (24))), some (Sum.inr (99, 0)), some (Sum.inr (99, 1)), some (Sum.inr (99, 2)), some (Sum.inl (Value.int (nI m))), some (Sum.inl (Value.int (nI k))), some (Sum.inl (Value.int (x))), some (Sum.inl (Value.int (nI w))), v11, v12, v13, v14], [], (σ, τ), kk) := by
  have e16 : nI k - nI k / 16 * 16 = nI (k % 16) := nI_remN (a := k) (b := 16) (by omega) (by decide) (by decide)
  have hc := sp_L_cell (sc := sc) (n := k % 16) (σ := σ) (τ := τ) (by omega) hsc
  have hb := sp_L_below (sc := sc) (v := zcel sc (k % 16) >>> (nI k / 16 * 4 &&& 31)) (k := 16) (σ := σ) (τ := τ) ⟨by decide, by decide⟩
  rw [← nI16] at hb
  have h24 : ¬ (24 : Int32) ≤ nI k := Int32.not_le.mpr (nI_ltI (b := 24) (by omega) (by decide) |>.mpr hk)
  have n16 : ¬ (16 : Int32) = 0 := by decide
  refine ⟨zcel sc (k % 16) >>> (nI k / 16 * 4 &&& 31), zbl (zcel sc (k % 16) >>> (nI k / 16 * 4 &&& 31)) 16, zbl_lt (by decide), ?_⟩
  generalize hr : zev (zk_L_build sc) (210, _) = r
  simp (disch := (first | assumption | exact zcB (by assumption) (by assumption) (Nat.le_of_ble_eq_true rfl) | exact zsB (by assumption) (by assumption) (Nat.le_of_ble_eq_true rfl) | exact zuB (by assumption) (by assumption) (by assumption) (Nat.le_of_ble_eq_true rfl) | exact zcok0 rfl (Nat.le_of_ble_eq_true rfl) | exact zcok0 (zrec_fig (by assumption)) (Nat.le_of_ble_eq_true rfl) | exact zcok0 (zrec_cl (by assumption)) (Nat.le_of_ble_eq_true rfl) | exact ⟨Nat.le_of_ble_eq_true rfl, Nat.zero_le _, Nat.zero_le _⟩ | exact zc1_int | exact zc1_ref | exact zpok_fig (by assumption) rfl (fun h => Bool.noConfusion h) | exact zpok_fig (by assumption) rfl (fun _ => Or.inl rfl) | exact zpok_fig (by assumption) rfl (fun _ => Or.inr rfl) | exact zpok_fig (by assumption) rfl (fun _ => (by assumption)) | exact zps_3_0 | exact zps_5_2 | exact zps_6_2 | exact zps_7_2 | exact zps_8_1 | exact zpc_0 (by assumption) | exact zpc_1 (by assumption) | exact zpc_2 (by assumption) | exact zpc_3 (by assumption) | exact zpc_4 (by assumption) | exact zif01 _ | exact zb01 | exact ⟨Nat.le_of_ble_eq_true rfl, Nat.le_of_ble_eq_true rfl⟩ | exact Or.inl rfl | exact Or.inr rfl | exact ⟨rfl, Nat.le_of_ble_eq_true rfl, Nat.le_of_ble_eq_true rfl, Nat.le_of_ble_eq_true rfl⟩ | omega)) only [zr_L_build_176, zr_L_build_178, zr_L_build_179, zr_L_build_182, zr_L_build_183, zr_L_build_185, zr_L_build_187, zr_L_build_188, zr_L_build_191, zr_L_build_193, zr_L_build_195, zr_L_build_196, zr_L_build_197, zr_L_build_198, zr_L_build_199, zr_L_build_201, zr_L_build_203, zr_L_build_205, zr_L_build_208, zb_True, zb_False, List.getElem?_cons_zero, List.getElem?_cons_succ, eq_self, and_true, true_and, zpush_some, zgo_some, zret_some, zret_void, zcok, zk1_int, zk1_ref, zk1_no, zc1_int, zc1_ref, zcat_int, zcat_long, zcat_ref, List.map_cons, List.map_nil, List.sum_cons, List.sum_nil, Nat.reduceAdd, Nat.reduceLeDiff, and_self, decide_eq_true_eq, Nat.add_zero, Nat.zero_add, Nat.zero_le, Nat.le_refl, h24, decide_false, Bool.false_eq_true, if_false, if_neg n16, e16, hc, hb]
  exact hr
theorem zbl_skip : zev (zk_L_build sc) (618, [some (Sum.inr (0, 0)), some (Sum.inr (97, 0)), some (Sum.inl (Value.int (nI p))), some (Sum.inl (Value.int (24))), some (Sum.inr (99, 0)), some (Sum.inr (99, 1)), some (Sum.inr (99, 2)), some (Sum.inl (Value.int (nI m))), some (Sum.inl (Value.int (nI k))), v9, v10, v11, v12, v13, v14], [], (σ, τ), kk) = zev (zk_L_build sc) (176, [some (Sum.inr (0, 0)), some (Sum.inr (97, 0)), some (Sum.inl (Value.int (nI p))), some (Sum.inl (Value.int (24))), some (Sum.inr (99, 0)), some (Sum.inr (99, 1)), some (Sum.inr (99, 2)), some (Sum.inl (Value.int (nI m))), some (Sum.inl (Value.int (nI (k + 1)))), v9, v10, v11, v12, v13, v14], [], (σ, τ), kk) := by
  have ek : nI (k + 1) = nI k + 1 := nI_succ k
  rw [ek]
  generalize hr : zev (zk_L_build sc) (176, _) = r
  simp (disch := (first | assumption | exact zcB (by assumption) (by assumption) (Nat.le_of_ble_eq_true rfl) | exact zsB (by assumption) (by assumption) (Nat.le_of_ble_eq_true rfl) | exact zuB (by assumption) (by assumption) (by assumption) (Nat.le_of_ble_eq_true rfl) | exact zcok0 rfl (Nat.le_of_ble_eq_true rfl) | exact zcok0 (zrec_fig (by assumption)) (Nat.le_of_ble_eq_true rfl) | exact zcok0 (zrec_cl (by assumption)) (Nat.le_of_ble_eq_true rfl) | exact ⟨Nat.le_of_ble_eq_true rfl, Nat.zero_le _, Nat.zero_le _⟩ | exact zc1_int | exact zc1_ref | exact zpok_fig (by assumption) rfl (fun h => Bool.noConfusion h) | exact zpok_fig (by assumption) rfl (fun _ => Or.inl rfl) | exact zpok_fig (by assumption) rfl (fun _ => Or.inr rfl) | exact zpok_fig (by assumption) rfl (fun _ => (by assumption)) | exact zps_3_0 | exact zps_5_2 | exact zps_6_2 | exact zps_7_2 | exact zps_8_1 | exact zpc_0 (by assumption) | exact zpc_1 (by assumption) | exact zpc_2 (by assumption) | exact zpc_3 (by assumption) | exact zpc_4 (by assumption) | exact zif01 _ | exact zb01 | exact ⟨Nat.le_of_ble_eq_true rfl, Nat.le_of_ble_eq_true rfl⟩ | exact Or.inl rfl | exact Or.inr rfl | exact ⟨rfl, Nat.le_of_ble_eq_true rfl, Nat.le_of_ble_eq_true rfl, Nat.le_of_ble_eq_true rfl⟩ | omega)) only [zr_L_build_618, zr_L_build_621, zb_True, zb_False, List.getElem?_cons_zero, List.getElem?_cons_succ, eq_self, and_true, true_and, zpush_some, zgo_some, zret_some, zret_void, zcok, zk1_int, zk1_ref, zk1_no, zc1_int, zc1_ref, zcat_int, zcat_long, zcat_ref, List.map_cons, List.map_nil, List.sum_cons, List.sum_nil, Nat.reduceAdd, Nat.reduceLeDiff, and_self, decide_eq_true_eq, Nat.add_zero, Nat.zero_add, Nat.zero_le, Nat.le_refl]
  exact hr
theorem zbl_skipN (hB : zBi p k m P t cl σ τ kk) (hm : 3 ≤ m) (hk' : kk.1 ≤ 3 + (k + 1) ∧ kk.2 ≤ 52 + 3 * (k + 1)) (hg : zBg τ.length v9 v10 v11 v12 v13 v14) : zBnx sc p k cl (zev (zk_L_build sc) (618, [some (Sum.inr (0, 0)), some (Sum.inr (97, 0)), some (Sum.inl (Value.int (nI p))), some (Sum.inl (Value.int (24))), some (Sum.inr (99, 0)), some (Sum.inr (99, 1)), some (Sum.inr (99, 2)), some (Sum.inl (Value.int (nI m))), some (Sum.inl (Value.int (nI k))), v9, v10, v11, v12, v13, v14], [], (σ, τ), kk)) := by
  obtain ⟨b1, ⟨b2, b3, b4⟩, b5, b6, b7, b8⟩ := hB
  exact ⟨m, P, t, σ, τ, kk, v9, v10, v11, v12, v13, v14, zbl_skip, ⟨b1, ⟨by omega, fun q => by omega, fun _ => hm⟩, b5, b6, b7, hk'⟩, hg⟩
/-- behind an object that was made -/
theorem zbl_add {n : Nat} {qs : Nat → Option Nat} {t' : yTo} {σ' : zMem} (hk : k < 24) (h1 : kk.1 ≤ 40) (h2 : kk.2 ≤ 200) (hk' : kk.1 ≤ 3 + (k + 1) ∧ kk.2 ≤ 52 + 3 * (k + 1)) (hm : m ≤ k) (hm3 : k < 3 → m = k) (hm3' : 3 ≤ k → 3 ≤ m) (h0 : ∀ j, j < m → j < 3 → P.1 j = 0) (hn : m < 3 → n = 0) (hSr : ySr m P) (hq : ywyB n = true → ∃ a b, qs 0 = some a ∧ qs 1 = some b ∧ a < m ∧ b < m ∧ zsort (nI (P.1 a)) = zent 0 (3 * nI n) ∧ zsort (nI (P.1 b)) = zent 0 (3 * nI n + 1))
    (hS : zSt p (m + 1) 0 (yNp P m n qs) t' cl) (hC : zSC p (m + 1) 0 (yNp P m n qs) t' cl σ') (hfs : ∀ j, j < m → fs j = zsort (nI (P.1 j))) (hg : zBg (rest.length + 3) v9 v10 v11 v12 v13 v14) :
    zBnx sc p k cl (zev (zk_L_build sc) (598, [some (Sum.inr (0, 0)), some (Sum.inr (97, 0)), some (Sum.inl (Value.int (nI p))), some (Sum.inl (Value.int (24))), some (Sum.inr (99, 0)), some (Sum.inr (99, 1)), some (Sum.inr (99, 2)), some (Sum.inl (Value.int (nI m))), some (Sum.inl (Value.int (nI k))), v9, v10, v11, v12, v13, v14], [], (σ', ((14, zfw0) :: (1014, zfn0) :: (24, upd fs m (zsort (nI n))) :: rest)), kk)) := by
  have em : (yNp P m n qs).1 m = n := if_pos rfl
  have em2 : (yNp P m n qs).2 m = qs := if_pos rfl
  have lo : ∀ j, j < m → (yNp P m n qs).1 j = P.1 j := fun j hj => if_neg (by omega)
  have lo2 : ∀ j, j < m → (yNp P m n qs).2 j = P.2 j := fun j hj => if_neg (by omega)
  have ho := k_obj0 (τ := ((14, zfw0) :: (1014, zfn0) :: (24, upd fs m (zsort (nI n))) :: rest)) hS hC (show m < m + 1 by omega)
  rw [em] at ho
  have hl : zald (zES sc) 99 2 (nI m) (σ', ((14, zfw0) :: (1014, zfn0) :: (24, upd fs m (zsort (nI n))) :: rest)) = some (.inl (.int (zsort (nI n)))) := by
    unfold zald
    rw [if_neg (nI_pos (by omega)), if_pos rfl]
    show (if (nI m).toNatClampNeg < 24 ∧ 24 < 1000 then some (zI (upd fs m (zsort (nI n)) (nI m).toNatClampNeg)) else none) = _
    rw [nI_clamp (by omega), if_pos ⟨by omega, by decide⟩]
    simp [upd]
  refine ⟨m + 1, yNp P m n qs, t', σ', ((14, zfw0) :: (1014, zfn0) :: (24, upd fs m (zsort (nI n))) :: rest), kk, v9, v10, v11, v12, v13, v14, ?_, ⟨⟨hS, hC⟩, ⟨by omega, fun q => by omega, fun q => by omega⟩, ?_, ?_, ⟨_, rest, rfl, ?_⟩, hk'⟩, hg⟩
  · have ek : nI (k + 1) = nI k + 1 := nI_succ k
    have e2 : nI (m + 1) = nI m + 1 := nI_succ m
    rw [ek, e2]
    generalize hr : zev (zk_L_build sc) (176, _) = r
    simp (disch := (first | assumption | exact zcB (by assumption) (by assumption) (Nat.le_of_ble_eq_true rfl) | exact zsB (by assumption) (by assumption) (Nat.le_of_ble_eq_true rfl) | exact zuB (by assumption) (by assumption) (by assumption) (Nat.le_of_ble_eq_true rfl) | exact zcok0 rfl (Nat.le_of_ble_eq_true rfl) | exact zcok0 (zrec_fig (by assumption)) (Nat.le_of_ble_eq_true rfl) | exact zcok0 (zrec_cl (by assumption)) (Nat.le_of_ble_eq_true rfl) | exact ⟨Nat.le_of_ble_eq_true rfl, Nat.zero_le _, Nat.zero_le _⟩ | exact zc1_int | exact zc1_ref | exact zpok_fig (by assumption) rfl (fun h => Bool.noConfusion h) | exact zpok_fig (by assumption) rfl (fun _ => Or.inl rfl) | exact zpok_fig (by assumption) rfl (fun _ => Or.inr rfl) | exact zpok_fig (by assumption) rfl (fun _ => (by assumption)) | exact zps_3_0 | exact zps_5_2 | exact zps_6_2 | exact zps_7_2 | exact zps_8_1 | exact zpc_0 (by assumption) | exact zpc_1 (by assumption) | exact zpc_2 (by assumption) | exact zpc_3 (by assumption) | exact zpc_4 (by assumption) | exact zif01 _ | exact zb01 | exact ⟨Nat.le_of_ble_eq_true rfl, Nat.le_of_ble_eq_true rfl⟩ | exact Or.inl rfl | exact Or.inr rfl | exact ⟨rfl, Nat.le_of_ble_eq_true rfl, Nat.le_of_ble_eq_true rfl, Nat.le_of_ble_eq_true rfl⟩ | omega)) only [zr_L_build_598, zr_L_build_599, zr_L_build_601, zr_L_build_602, zr_L_build_605, zr_L_build_607, zr_L_build_609, zr_L_build_610, zr_L_build_613, zr_L_build_614, zr_L_build_615, zr_L_build_618, zr_L_build_621, zb_True, zb_False, List.getElem?_cons_zero, List.getElem?_cons_succ, eq_self, and_true, true_and, zpush_some, zgo_some, zret_some, zret_void, zcok, zk1_int, zk1_ref, zk1_no, zc1_int, zc1_ref, zcat_int, zcat_long, zcat_ref, List.map_cons, List.map_nil, List.sum_cons, List.sum_nil, Nat.reduceAdd, Nat.reduceLeDiff, and_self, decide_eq_true_eq, Nat.add_zero, Nat.zero_add, Nat.zero_le, Nat.le_refl, ho, hl, decide_true, if_true]
    exact hr
  · intro j hj hj3
    rcases Nat.eq_or_lt_of_le (Nat.le_of_lt_succ hj) with g | g
    · rw [g, em]; exact hn (by omega)
    · rw [lo j g]; exact h0 j g hj3
  · intro j hj hy
    rcases Nat.eq_or_lt_of_le (Nat.le_of_lt_succ hj) with g | g
    · rw [g, em] at hy
      obtain ⟨a, b, qa, qb, la, lb, sa, sb⟩ := hq hy
      rw [g]
      exact ⟨a, b, by rw [em2]; exact qa, by rw [em2]; exact qb, la, lb, by rw [lo a la, em]; exact sa, by rw [lo b lb, em]; exact sb⟩
    · rw [lo j g] at hy
      obtain ⟨a, b, qa, qb, la, lb, sa, sb⟩ := hSr j g hy
      exact ⟨a, b, by rw [lo2 j g]; exact qa, by rw [lo2 j g]; exact qb, la, lb, by rw [lo a (by omega), lo j g]; exact sa, by rw [lo b (by omega), lo j g]; exact sb⟩
  · intro j hj
    rcases Nat.eq_or_lt_of_le (Nat.le_of_lt_succ hj) with g | g
    · rw [g, em]; simp [upd]
    · rw [lo j g, ← hfs j g]
      have : j ≠ m := by omega
      simp [upd, this]
theorem zast_2 {j : Nat} {x : Int32} (hj : j < 24) : zast (zES sc) 99 2 (nI j) x (σ, ((14, zfw0) :: (1014, zfn0) :: (24, fs) :: rest)) = some (σ, ((14, zfw0) :: (1014, zfn0) :: (24, upd fs j x) :: rest)) := by
  unfold zast
  rw [if_neg (nI_pos (by omega)), if_pos rfl]
  show (if (nI j).toNatClampNeg < 24 ∧ 24 < 1000 then some (σ, (14, zfw0) :: (1014, zfn0) :: (24, upd fs (nI j).toNatClampNeg x) :: rest) else none) = _
  rw [nI_clamp (by omega), if_pos ⟨hj, by decide⟩]
/-- a free point -/
theorem zbl_free {x : Int32} {w : Nat} (hp : zpr p) (hk : k < 24) (hw : w < 16) (hb : k < 3 ∨ w = 14) (hB : zBi p k m P t cl σ ((14, zfw0) :: (1014, zfn0) :: (24, fs) :: rest) kk) (hg : zBg (rest.length + 3) v9 v10 v11 v12 v13 v14) (hfs : ∀ j, j < m → fs j = zsort (nI (P.1 j))) : zBnx sc p k cl (zev (zk_L_build sc) (210, [some (Sum.inr (0, 0)), some (Sum.inr (97, 0)), some (Sum.inl (Value.int (nI p))), some (Sum.inl (Value.int (24))), some (Sum.inr (99, 0)), some (Sum.inr (99, 1)), some (Sum.inr (99, 2)), some (Sum.inl (Value.int (nI m))), some (Sum.inl (Value.int (nI k))), some (zI x), some (zI (nI w)), v11, v12, v13, v14], [], (σ, ((14, zfw0) :: (1014, zfn0) :: (24, fs) :: rest)), kk)) := by
  obtain ⟨⟨hS, hC⟩, ⟨b2, b3, b4⟩, b5, b6, b7, b8⟩ := hB
  have h1 : kk.1 ≤ 40 := by omega
  have h2 : kk.2 ≤ 200 := by omega
  have hp0 := zpr_lt hp
  have hb1 := sp_L_below (sc := sc) (v := x >>> (3 &&& 31)) (k := p) (σ := σ) (τ := ((14, zfw0) :: (1014, zfn0) :: (24, fs) :: rest)) ⟨by omega, by omega⟩
  have hb2 := sp_L_below (sc := sc) (v := x >>> (9 &&& 31)) (k := p) (σ := σ) (τ := ((14, zfw0) :: (1014, zfn0) :: (24, fs) :: rest)) ⟨by omega, by omega⟩
  obtain ⟨σ', e, hS', hC'⟩ := k_free (τ := ((14, zfw0) :: (1014, zfn0) :: (24, fs) :: rest)) (x := zbl (x >>> (3 &&& 31)) p) (y := zbl (x >>> (9 &&& 31)) p) hS hC (by omega) (zbl_lt (by omega)) (zbl_lt (by omega))
  have ho := k_obj1 (τ := ((14, zfw0) :: (1014, zfn0) :: (24, fs) :: rest)) hS' hC' (show m < m + 1 by omega)
  have em : (yNp P m 0 (fun _ => none)).1 m = 0 := if_pos rfl
  rw [em] at ho
  have hs := zast_2 (sc := sc) (σ := σ') (rest := rest) (fs := fs) (j := m) (x := 0) (by omega)
  have h := zbl_add (sc := sc) (kk := kk) (fs := fs) (rest := rest) (v9 := some (zI x)) (v10 := some (zI (nI w))) (v11 := some (zI (nI m))) (v12 := v12) (v13 := v13) (v14 := v14) hk h1 h2 ⟨by omega, by omega⟩ b2 b3 b4 b5 (fun _ => rfl) b6 (fun g => absurd g (by decide)) hS' hC' hfs ⟨rfl, rfl, rfl, hg.2.2.2.1, hg.2.2.2.2.1, hg.2.2.2.2.2⟩
  have es : zsort (nI 0) = 0 := rfl
  rw [es] at h
  have step : zev (zk_L_build sc) (210, [some (Sum.inr (0, 0)), some (Sum.inr (97, 0)), some (Sum.inl (Value.int (nI p))), some (Sum.inl (Value.int (24))), some (Sum.inr (99, 0)), some (Sum.inr (99, 1)), some (Sum.inr (99, 2)), some (Sum.inl (Value.int (nI m))), some (Sum.inl (Value.int (nI k))), some (zI x), some (zI (nI w)), v11, v12, v13, v14], [], (σ, ((14, zfw0) :: (1014, zfn0) :: (24, fs) :: rest)), kk) = zev (zk_L_build sc) (598, [some (Sum.inr (0, 0)), some (Sum.inr (97, 0)), some (Sum.inl (Value.int (nI p))), some (Sum.inl (Value.int (24))), some (Sum.inr (99, 0)), some (Sum.inr (99, 1)), some (Sum.inr (99, 2)), some (Sum.inl (Value.int (nI m))), some (Sum.inl (Value.int (nI k))), some (zI x), some (zI (nI w)), some (zI (nI m)), v12, v13, v14], [], (σ', (14, zfw0) :: (1014, zfn0) :: (24, upd fs m 0) :: rest), kk) := by
    have hlt : (nI k < 3) ↔ k < 3 := nI_ltI (b := 3) (by omega) (by decide)
    have h14 : (nI w = 14) ↔ w = 14 := nI_eq (b := 14) (by omega) (by decide)
    generalize hr : zev (zk_L_build sc) (598, _) = r
    have tail : zev (zk_L_build sc) (223, [some (Sum.inr (0, 0)), some (Sum.inr (97, 0)), some (Sum.inl (Value.int (nI p))), some (Sum.inl (Value.int (24))), some (Sum.inr (99, 0)), some (Sum.inr (99, 1)), some (Sum.inr (99, 2)), some (Sum.inl (Value.int (nI m))), some (Sum.inl (Value.int (nI k))), some (zI x), some (zI (nI w)), v11, v12, v13, v14], [], (σ, ((14, zfw0) :: (1014, zfn0) :: (24, fs) :: rest)), kk) = r := by
      simp (disch := (first | assumption | exact zcB (by assumption) (by assumption) (Nat.le_of_ble_eq_true rfl) | exact zsB (by assumption) (by assumption) (Nat.le_of_ble_eq_true rfl) | exact zuB (by assumption) (by assumption) (by assumption) (Nat.le_of_ble_eq_true rfl) | exact zcok0 rfl (Nat.le_of_ble_eq_true rfl) | exact zcok0 (zrec_fig (by assumption)) (Nat.le_of_ble_eq_true rfl) | exact zcok0 (zrec_cl (by assumption)) (Nat.le_of_ble_eq_true rfl) | exact ⟨Nat.le_of_ble_eq_true rfl, Nat.zero_le _, Nat.zero_le _⟩ | exact zc1_int | exact zc1_ref | exact zpok_fig (by assumption) rfl (fun h => Bool.noConfusion h) | exact zpok_fig (by assumption) rfl (fun _ => Or.inl rfl) | exact zpok_fig (by assumption) rfl (fun _ => Or.inr rfl) | exact zpok_fig (by assumption) rfl (fun _ => (by assumption)) | exact zps_3_0 | exact zps_5_2 | exact zps_6_2 | exact zps_7_2 | exact zps_8_1 | exact zpc_0 (by assumption) | exact zpc_1 (by assumption) | exact zpc_2 (by assumption) | exact zpc_3 (by assumption) | exact zpc_4 (by assumption) | exact zif01 _ | exact zb01 | exact ⟨Nat.le_of_ble_eq_true rfl, Nat.le_of_ble_eq_true rfl⟩ | exact Or.inl rfl | exact Or.inr rfl | exact ⟨rfl, Nat.le_of_ble_eq_true rfl, Nat.le_of_ble_eq_true rfl, Nat.le_of_ble_eq_true rfl⟩ | omega)) only [zr_L_build_223, zr_L_build_224, zr_L_build_225, zr_L_build_227, zr_L_build_228, zr_L_build_229, zr_L_build_230, zr_L_build_233, zr_L_build_235, zr_L_build_237, zr_L_build_238, zr_L_build_239, zr_L_build_242, zr_L_build_245, zr_L_build_247, zr_L_build_249, zr_L_build_251, zr_L_build_254, zr_L_build_255, zr_L_build_257, zr_L_build_258, zr_L_build_261, zr_L_build_264, zr_L_build_265, zr_L_build_266, zr_L_build_268, zr_L_build_270, zr_L_build_271, zr_L_build_272, zb_True, zb_False, List.getElem?_cons_zero, List.getElem?_cons_succ, eq_self, and_true, true_and, zpush_some, zgo_some, zret_some, zret_void, zcok, zk1_int, zk1_ref, zk1_no, zc1_int, zc1_ref, zcat_int, zcat_long, zcat_ref, List.map_cons, List.map_nil, List.sum_cons, List.sum_nil, Nat.reduceAdd, Nat.reduceLeDiff, and_self, decide_eq_true_eq, Nat.add_zero, Nat.zero_add, Nat.zero_le, Nat.le_refl, hb1, hb2, e, ho, nI_0, decide_true, if_true, not_true_eq_false, decide_false, Bool.false_eq_true, if_false, hs]
      exact hr
    by_cases g : k < 3
    · simp (disch := (first | assumption | exact zcB (by assumption) (by assumption) (Nat.le_of_ble_eq_true rfl) | exact zsB (by assumption) (by assumption) (Nat.le_of_ble_eq_true rfl) | exact zuB (by assumption) (by assumption) (by assumption) (Nat.le_of_ble_eq_true rfl) | exact zcok0 rfl (Nat.le_of_ble_eq_true rfl) | exact zcok0 (zrec_fig (by assumption)) (Nat.le_of_ble_eq_true rfl) | exact zcok0 (zrec_cl (by assumption)) (Nat.le_of_ble_eq_true rfl) | exact ⟨Nat.le_of_ble_eq_true rfl, Nat.zero_le _, Nat.zero_le _⟩ | exact zc1_int | exact zc1_ref | exact zpok_fig (by assumption) rfl (fun h => Bool.noConfusion h) | exact zpok_fig (by assumption) rfl (fun _ => Or.inl rfl) | exact zpok_fig (by assumption) rfl (fun _ => Or.inr rfl) | exact zpok_fig (by assumption) rfl (fun _ => (by assumption)) | exact zps_3_0 | exact zps_5_2 | exact zps_6_2 | exact zps_7_2 | exact zps_8_1 | exact zpc_0 (by assumption) | exact zpc_1 (by assumption) | exact zpc_2 (by assumption) | exact zpc_3 (by assumption) | exact zpc_4 (by assumption) | exact zif01 _ | exact zb01 | exact ⟨Nat.le_of_ble_eq_true rfl, Nat.le_of_ble_eq_true rfl⟩ | exact Or.inl rfl | exact Or.inr rfl | exact ⟨rfl, Nat.le_of_ble_eq_true rfl, Nat.le_of_ble_eq_true rfl, Nat.le_of_ble_eq_true rfl⟩ | omega)) only [zr_L_build_210, zr_L_build_212, zr_L_build_213, zb_True, zb_False, List.getElem?_cons_zero, List.getElem?_cons_succ, eq_self, and_true, true_and, zpush_some, zgo_some, zret_some, zret_void, zcok, zk1_int, zk1_ref, zk1_no, zc1_int, zc1_ref, zcat_int, zcat_long, zcat_ref, List.map_cons, List.map_nil, List.sum_cons, List.sum_nil, Nat.reduceAdd, Nat.reduceLeDiff, and_self, decide_eq_true_eq, Nat.add_zero, Nat.zero_add, Nat.zero_le, Nat.le_refl, hlt, g, decide_true, if_true]
      exact tail
    · have g' : w = 14 := by omega
      simp (disch := (first | assumption | exact zcB (by assumption) (by assumption) (Nat.le_of_ble_eq_true rfl) | exact zsB (by assumption) (by assumption) (Nat.le_of_ble_eq_true rfl) | exact zuB (by assumption) (by assumption) (by assumption) (Nat.le_of_ble_eq_true rfl) | exact zcok0 rfl (Nat.le_of_ble_eq_true rfl) | exact zcok0 (zrec_fig (by assumption)) (Nat.le_of_ble_eq_true rfl) | exact zcok0 (zrec_cl (by assumption)) (Nat.le_of_ble_eq_true rfl) | exact ⟨Nat.le_of_ble_eq_true rfl, Nat.zero_le _, Nat.zero_le _⟩ | exact zc1_int | exact zc1_ref | exact zpok_fig (by assumption) rfl (fun h => Bool.noConfusion h) | exact zpok_fig (by assumption) rfl (fun _ => Or.inl rfl) | exact zpok_fig (by assumption) rfl (fun _ => Or.inr rfl) | exact zpok_fig (by assumption) rfl (fun _ => (by assumption)) | exact zps_3_0 | exact zps_5_2 | exact zps_6_2 | exact zps_7_2 | exact zps_8_1 | exact zpc_0 (by assumption) | exact zpc_1 (by assumption) | exact zpc_2 (by assumption) | exact zpc_3 (by assumption) | exact zpc_4 (by assumption) | exact zif01 _ | exact zb01 | exact ⟨Nat.le_of_ble_eq_true rfl, Nat.le_of_ble_eq_true rfl⟩ | exact Or.inl rfl | exact Or.inr rfl | exact ⟨rfl, Nat.le_of_ble_eq_true rfl, Nat.le_of_ble_eq_true rfl, Nat.le_of_ble_eq_true rfl⟩ | omega)) only [zr_L_build_210, zr_L_build_212, zr_L_build_213, zr_L_build_216, zr_L_build_218, zr_L_build_220, zb_True, zb_False, List.getElem?_cons_zero, List.getElem?_cons_succ, eq_self, and_true, true_and, zpush_some, zgo_some, zret_some, zret_void, zcok, zk1_int, zk1_ref, zk1_no, zc1_int, zc1_ref, zcat_int, zcat_long, zcat_ref, List.map_cons, List.map_nil, List.sum_cons, List.sum_nil, Nat.reduceAdd, Nat.reduceLeDiff, and_self, decide_eq_true_eq, Nat.add_zero, Nat.zero_add, Nat.zero_le, Nat.le_refl, hlt, h14, g, g', decide_true, decide_false, Bool.false_eq_true, if_false, not_true_eq_false]
      subst g'
      exact tail
  rw [step]
  exact h
end BLD
