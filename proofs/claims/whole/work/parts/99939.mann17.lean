theorem zLk_S2 {it c : Nat} {b : Int} (hb : b = -1 ∨ ∃ k : Nat, b = k) (a j : Nat) (h : zS2 a j = false) : zLk it c b a j = false := by
  cases e : zLk it c b a j
  · rfl
  · exfalso
    have e := of_decide_eq_true e
    have h2 : zS2 a j = true := by
      unfold zS2
      simp only [Bool.or_eq_true, Bool.and_eq_true, decide_eq_true_eq]
      rcases hb with hb | ⟨k, hb⟩ <;> omega
    rw [h2] at h
    cases h
theorem zsc_S2 (a j : Nat) (h : zS2 a j = false) : zin [] [(106, 68), (106, 69), (106, 70), (106, 71)] a j = false := by
  cases e : zin [] [(106, 68), (106, 69), (106, 70), (106, 71)] a j
  · rfl
  · exfalso
    simp [zin] at e
    have h2 : zS2 a j = true := by
      unfold zS2
      simp only [Bool.or_eq_true, Bool.and_eq_true, decide_eq_true_eq]
      omega
    rw [h2] at h
    cases h
/-- the word of a leaf -/
theorem zadw_x {t : Nat → Int} {p s : Nat} {w : Nat × (Nat → Nat × Nat)} : zwx w (zadw t p s w) ∧ (zadw t p s w).1 ≤ w.1 + 1 ∧ zfi (zsw2 t w.2 p s) w.1 < (zadw t p s w).1 ∧ ((zadw t p s w).2 (zfi (zsw2 t w.2 p s) w.1)).2 = s ∧ ∀ j : Nat, j < s → t (((zadw t p s w).2 (zfi (zsw2 t w.2 p s) w.1)).1 + j) = t (p + j) := by
  obtain ⟨a1, a2, a3⟩ := zfi_p (P := zsw2 t w.2 p s) w.1
  unfold zadw
  by_cases q : zfi (zsw2 t w.2 p s) w.1 < w.1
  · rw [zcif_p q]
    exact ⟨zwx_r w, by omega, q, (a3 q).1, (a3 q).2⟩
  · rw [zcif_n q]
    have e : zfi (zsw2 t w.2 p s) w.1 = w.1 := by omega
    rw [e]
    refine ⟨⟨by show w.1 ≤ w.1 + 1; omega, fun x hx => ?_⟩, Nat.le_refl _, by show w.1 < w.1 + 1; omega, ?_, fun j hj => ?_⟩
    · show zcif (x = w.1) (p, s) (w.2 x) = w.2 x
      rw [zcif_n (by omega)]
    · show (zcif (w.1 = w.1) (p, s) (w.2 w.1)).2 = s
      rw [zcif_p rfl]
    · show t ((zcif (w.1 = w.1) (p, s) (w.2 w.1)).1 + j) = t (p + j)
      rw [zcif_p rfl]
