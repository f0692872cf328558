/-! ===== the law: worlds side by side ===== -/
def xJ (D : va_G) (A : Nat → Prop) (ws : va_W) (H : Heap) : Prop := va_P D vwCl ws H ∧ va_D A ws
theorem xw_get {X Y : va_W} {i : Nat} {x : Nat × va_E} (h : (Y ++ X)[i]? = some x) : ∃ j, (X ++ Y)[j]? = some x ∧ j = if i < Y.length then X.length + i else i - Y.length := by
  by_cases hi : i < Y.length
  · rw [List.getElem?_append_left hi] at h
    refine ⟨X.length + i, ?_, by rw [if_pos hi]⟩
    rw [List.getElem?_append_right (by omega)]
    have e : X.length + i - X.length = i := by omega
    rw [e]
    exact h
  · rw [List.getElem?_append_right (by omega)] at h
    have hl := (List.getElem?_eq_some_iff.mp h).1
    exact ⟨i - Y.length, by rw [List.getElem?_append_left hl]; exact h, by rw [if_neg hi]⟩
theorem xw_swap {A : Nat → Prop} {D : va_G} {X Y : va_W} {H : Heap} (h : xJ D A (X ++ Y) H) : xJ D A (Y ++ X) H := by
  obtain ⟨hP, hD⟩ := h
  refine ⟨fun k x hx => ?_, fun i j a b ha hb hab => ?_, fun k x hx => ?_⟩
  · obtain ⟨k', h1, -⟩ := xw_get hx
    exact hP k' x h1
  · have la := (List.getElem?_eq_some_iff.mp ha).1
    have lb := (List.getElem?_eq_some_iff.mp hb).1
    rw [List.length_append] at la lb
    obtain ⟨i', a1, a2⟩ := xw_get ha
    obtain ⟨j', b1, b2⟩ := xw_get hb
    have e := hD.1 i' j' a b a1 b1 hab
    rw [a2, b2] at e
    by_cases h1 : i < Y.length
    · rw [if_pos h1] at e
      by_cases h2 : j < Y.length
      · rw [if_pos h2] at e
        omega
      · rw [if_neg h2] at e
        omega
    · rw [if_neg h1] at e
      by_cases h2 : j < Y.length
      · rw [if_pos h2] at e
        omega
      · rw [if_neg h2] at e
        omega
  · obtain ⟨k', h1, -⟩ := xw_get hx
    exact hD.2 k' x h1
theorem xw_front {A : Nat → Prop} {D : va_G} {X Y : va_W} {H : Heap} (h : xJ D A (X ++ Y) H) : xJ D A X H := by
  have old : ∀ (k : Nat) (x : Nat × va_E), X[k]? = some x → (X ++ Y)[k]? = some x := fun k x hx => by rw [List.getElem?_append_left (List.getElem?_eq_some_iff.mp hx).1]; exact hx
  exact ⟨fun k x hx => h.1 k x (old k x hx), fun i j a b ha hb hab => h.2.1 i j a b (old i a ha) (old j b hb) hab, fun k x hx => h.2.2 k x (old k x hx)⟩
theorem xw_inA {A : Nat → Prop} {D : va_G} {X : va_W} {H : Heap} (h : xJ D A X H) (hA : ∀ x : Nat, H.size ≤ x → A x) : ∀ x, va_A X H.size x → A x := by
  rintro x (⟨k, e, hk⟩ | hz)
  · exact h.2.2 k (x, e) hk
  · exact hA x hz
/-- a call that changes the front world only -/
theorem xw_step {A : Nat → Prop} {D : va_G} {X Y X1 : va_W} {H H1 : Heap} (hJ : xJ D A (X ++ Y) H) (hA : ∀ x : Nat, H.size ≤ x → A x) (hk : ∀ x : Nat, x < H.size → ¬ va_A X H.size x → H1[x]? = H[x]?) (hX : xJ D (va_A X H.size) X1 H1) : xJ D A (X1 ++ Y) H1 := by
  have hin := xw_inA (xw_front hJ) hA
  obtain ⟨hP, hD⟩ := hJ
  have back : ∀ (k : Nat) (x : Nat × va_E), Y[k]? = some x → (X ++ Y)[X.length + k]? = some x := fun k x hx => by
    rw [List.getElem?_append_right (by omega)]
    have e : X.length + k - X.length = k := by omega
    rw [e]
    exact hx
  have apart : ∀ (k : Nat) (x : Nat × va_E), Y[k]? = some x → x.1 < H.size ∧ ¬ va_A X H.size x.1 := by
    intro k x hx
    have hl := (hP _ x (back k x hx)).lt
    refine ⟨hl, ?_⟩
    rintro (⟨j, e, h⟩ | h)
    · have hj := (List.getElem?_eq_some_iff.mp h).1
      have := hD.1 j (X.length + k) (x.1, e) x (by rw [List.getElem?_append_left hj]; exact h) (back k x hx) rfl
      omega
    · omega
  refine ⟨fun k x hx => ?_, fun i j a b ha hb hab => ?_, fun k x hx => ?_⟩
  · by_cases hl : k < X1.length
    · rw [List.getElem?_append_left hl] at hx
      exact hX.1 k x hx
    · rw [List.getElem?_append_right (by omega)] at hx
      obtain ⟨h1, h2⟩ := apart _ x hx
      exact (hP _ x (back _ x hx)).kept (hk x.1 h1 h2)
  · by_cases hi : i < X1.length
    · rw [List.getElem?_append_left hi] at ha
      by_cases hj : j < X1.length
      · rw [List.getElem?_append_left hj] at hb
        exact hX.2.1 i j a b ha hb hab
      · rw [List.getElem?_append_right (by omega)] at hb
        exact absurd (hab ▸ hX.2.2 i a ha) (apart _ b hb).2
    · rw [List.getElem?_append_right (by omega)] at ha
      by_cases hj : j < X1.length
      · rw [List.getElem?_append_left hj] at hb
        exact absurd (hab ▸ hX.2.2 j b hb) (apart _ a ha).2
      · rw [List.getElem?_append_right (by omega)] at hb
        have := hD.1 _ _ a b (back _ a ha) (back _ b hb) hab
        omega
  · by_cases hl : k < X1.length
    · rw [List.getElem?_append_left hl] at hx
      exact hin _ (hX.2.2 k x hx)
    · rw [List.getElem?_append_right (by omega)] at hx
      exact hD.2 _ x (back _ x hx)
