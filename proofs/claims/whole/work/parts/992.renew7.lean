theorem zEx_N {W : Nat → Nat → Nat} {n c q : Nat} : ∀ r m w : Nat, zEx W n r m w c q → 0 < zNn W n r m w
  | 0, _, _, h => h.elim
  | r + 1, m, w, h => by
    rw [zEx_s] at h
    obtain ⟨hw, e, a1, a2, h⟩ := h
    rw [zNn_p W hw]
    rcases h with ⟨b1, b2, b3⟩ | ⟨b1, b2⟩
    · exact ⟨e, a1, a2, b3⟩
    · exact ⟨e, a1, a2, zEx_N r _ _ b2⟩
/-- a book that fits, digit by digit -/
theorem zPth {W : Nat → Nat → Nat} {n : Nat} : ∀ r m w : Nat, r ≤ 8 → m < 256 → 0 < zNn W n r m w → ∃ g : Nat → Nat, (∀ j : Nat, 8 - r ≤ j → j < 8 → g j < 8 ∧ zbt1 m (g j) = false ∧ zEx W n r m w j (g j)) ∧ ∀ i j : Nat, 8 - r ≤ i → i < j → j < 8 → g i ≠ g j
  | 0, m, w, _, _, _ => ⟨fun _ => 0, fun j h1 h2 => by omega, fun i j h1 h2 h3 => by omega⟩
  | r + 1, m, w, hr, hm, h => by
    by_cases hw : w < n
    · obtain ⟨e, a1, a2, a3⟩ := (zNn_p W hw).mp h
      have hz := zor_m m hm e a1
      have hb := zor_b m hm e a1
      obtain ⟨g, g1, g2⟩ := zPth r (m ||| 2 ^ e) (w + W (7 - r) e) (by omega) hz.1 a3
      have hne : ∀ j : Nat, 8 - r ≤ j → j < 8 → zbt1 m (g j) = false ∧ g j ≠ e := by
        intro j h1 h2
        obtain ⟨c1, c2, _⟩ := g1 j h1 h2
        rw [hb _ c1] at c2
        simp only [Bool.or_eq_false_iff, beq_eq_false_iff_ne] at c2
        exact c2
      refine ⟨fun j => if j = 7 - r then e else g j, fun j h1 h2 => ?_, fun i j h1 h2 h3 => ?_⟩
      · by_cases ej : j = 7 - r
        · simp only [if_pos ej]
          refine ⟨a1, a2, ?_⟩
          rw [zEx_s]
          exact ⟨hw, e, a1, a2, Or.inl ⟨ej, rfl, a3⟩⟩
        · simp only [if_neg ej]
          obtain ⟨c1, c2, c3⟩ := g1 j (by omega) h2
          refine ⟨c1, (hne j (by omega) h2).1, ?_⟩
          rw [zEx_s]
          exact ⟨hw, e, a1, a2, Or.inr ⟨by omega, c3⟩⟩
      · simp only [if_neg (show ¬ j = 7 - r by omega)]
        by_cases ei : i = 7 - r
        · simp only [if_pos ei]
          exact fun q => (hne j (by omega) h3).2 q.symm
        · simp only [if_neg ei]
          exact g2 i j (by omega) h2 h3
    · rw [zNn_0 hw] at h
      omega
/-- a book that costs one at most a cue bounds the least -/
theorem zMn_p {K : Nat → Nat → Int} {g : Nat → Nat} (hg : ∀ j : Nat, j < 8 → g j < 8 ∧ K j (g j) ≤ 1) (hd : ∀ i j : Nat, i < j → j < 8 → g i ≠ g j) : ∀ r m : Nat, r ≤ 8 → m < 256 → (∀ j : Nat, 8 - r ≤ j → j < 8 → zbt1 m (g j) = false) → zMn K r m ≤ r
  | 0, _, _, _, _ => Int.le_refl 0
  | r + 1, m, hr, hm, hb => by
    have h7 := hg (7 - r) (by omega)
    have hz := zor_m m hm (g (7 - r)) h7.1
    have hbb := zor_b m hm (g (7 - r)) h7.1
    have ih := zMn_p hg hd r (m ||| 2 ^ g (7 - r)) (by omega) hz.1 (fun j h1 h2 => by
      rw [hbb _ (hg j h2).1, hb j (by omega) h2]
      simp only [Bool.false_or, beq_eq_false_iff_ne]
      exact fun q => hd (7 - r) j (by omega) h2 q.symm)
    rw [zMn_s]
    have hl := zMp_l (f := fun e => zMn K r (m ||| 2 ^ e) + K (7 - r) e) 8 (g (7 - r)) h7.1 (hb (7 - r) (by omega) (by omega))
    omega
theorem zbt_0 : ∀ q : Nat, q < 8 → zbt1 0 q = false := by decide
/-- there is always a new book -/
theorem zfeas {W : Nat → Nat → Nat} {n : Nat} {B D : Nat → Int} (hS : ∀ j : Nat, j < 8 → ∃ p : Nat, p < 256 ∧ (∀ q : Nat, q < 8 → (zbt1 p q = true ↔ zEx W n 8 0 0 j q)) ∧ B j = if zonly p < 0 then 8 else zonly p) : zMn (zKc B D) 8 0 < 1000000 := by
  have fin : ∀ g : Nat → Nat, (∀ j : Nat, j < 8 → g j < 8 ∧ B j ≠ (g j : Int)) → (∀ i j : Nat, i < j → j < 8 → g i ≠ g j) → zMn (zKc B D) 8 0 < 1000000 := by
    intro g h1 h2
    have := zMn_p (K := zKc B D) (g := g) (fun j hj => ⟨(h1 j hj).1, by unfold zKc; rw [if_neg (h1 j hj).2]; split <;> omega⟩) h2 8 0 (by omega) (by omega) (fun j _ hj => zbt_0 _ (h1 j hj).1)
    omega
  by_cases hN : 0 < zNn W n 8 0 0
  · obtain ⟨g, g1, g2⟩ := zPth 8 0 0 (by omega) (by omega) hN
    refine fin (fun j => (g j + 1) % 8) (fun j hj => ⟨by omega, ?_⟩) (fun i j h1 h2 => ?_)
    · obtain ⟨c1, c2, c3⟩ := g1 j (by omega) hj
      obtain ⟨p, hp, hP, hB⟩ := hS j hj
      have hr := zonly_r p hp
      rw [hB]
      by_cases h0 : zonly p < 0
      · rw [if_pos h0]; omega
      · rw [if_neg h0]
        have := (hr.2.2 (by omega) (g j) c1).mp ((hP (g j) c1).mpr c3)
        omega
    · have a := (g1 i (by omega) (by omega)).1
      have b := (g1 j (by omega) h2).1
      have c := g2 i j (by omega) h1 h2
      omega
  · refine fin (fun j => j) (fun j hj => ⟨hj, ?_⟩) (fun i j h1 h2 => by omega)
    obtain ⟨p, hp, hP, hB⟩ := hS j hj
    have p0 : p = 0 := zbt_ext hp (by omega) (fun q hq => by
      rw [hP q hq, zbt_0 q hq]
      exact ⟨fun a => absurd (zEx_N _ _ _ a) hN, fun a => by cases a⟩)
    subst p0
    rw [hB, show zonly 0 = -1 from rfl, if_pos (by decide)]
    omega
theorem zbt_f : ∀ q : Nat, q < 8 → zbt1 255 q = true := by decide
theorem zGb_o {B D : Nat → Int} : ∀ r m : Nat, r ≤ 8 → m < 256 → zpc m = 8 - r → zMn (zKc B D) r m < 1000000 → (∀ j : Nat, 8 - r ≤ j → j < 8 → zGb (zKc B D) r m j < 8) ∧ ∀ q : Nat, q < 8 → zbt1 m q = true ∨ ∃ j : Nat, 8 - r ≤ j ∧ j < 8 ∧ zGb (zKc B D) r m j = q
  | 0, m, _, hm, hp, _ => ⟨fun j h1 h2 => by omega, fun q hq => by
      have := (zpc_le m hm).2.2.1 (by omega)
      subst this
      exact Or.inl (zbt_f q hq)⟩
  | r + 1, m, hr, hm, hp, h => by
    have h2 := h
    rw [zMn_f] at h2
    obtain ⟨g1, g2, g3, g4⟩ := zPk_g 8 h2
    have hz := zor_m m hm _ g1
    have hbb := zor_b m hm _ g1
    have hK2 := zKc_b B D (7 - r) (zPk (zFf (zKc B D) r m) m 8)
    have ef : zFf (zKc B D) r m (zPk (zFf (zKc B D) r m) m 8) = zMn (zKc B D) r (m ||| 2 ^ zPk (zFf (zKc B D) r m) m 8) + zKc B D (7 - r) (zPk (zFf (zKc B D) r m) m 8) := rfl
    obtain ⟨i1, i2⟩ := zGb_o (B := B) (D := D) r (m ||| 2 ^ zPk (zFf (zKc B D) r m) m 8) (by omega) hz.1 (by rw [hz.2.2.2 g2, hp]; omega) (by omega)
    refine ⟨fun j h1 h2 => ?_, fun q hq => ?_⟩
    · rw [zGb_s]
      by_cases ej : j = 7 - r
      · rw [if_pos ej]; exact g1
      · rw [if_neg ej]; exact i1 j (by omega) h2
    · rcases i2 q hq with a | ⟨j, a, b, c⟩
      · rw [hbb q hq] at a
        simp only [Bool.or_eq_true, beq_iff_eq] at a
        rcases a with a | a
        · exact Or.inl a
        · exact Or.inr ⟨7 - r, by omega, by omega, by rw [zGb_s, if_pos rfl, a]⟩
      · exact Or.inr ⟨j, by omega, b, by rw [zGb_s, if_neg (by omega)]; exact c⟩
theorem zGb_c {K K' : Nat → Nat → Int} (h : ∀ k e : Nat, k < 8 → e < 8 → K k e = K' k e) : ∀ (r m : Nat), r ≤ 8 → ∀ j : Nat, zGb K r m j = zGb K' r m j
  | 0, _, _, _ => rfl
  | r + 1, m, hr, j => by
    have e1 : zPk (zFf K r m) m 8 = zPk (zFf K' r m) m 8 := zPk_c 8 (fun e he => by unfold zFf; rw [zMn_c h r _ (by omega), h (7 - r) e (by omega) he])
    rw [zGb_s, zGb_s, e1, zGb_c h r _ (by omega)]
