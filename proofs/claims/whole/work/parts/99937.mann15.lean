theorem zso_i {t : Nat → Int} {n a : Nat} : (zso t n a = 8 ↔ n ≤ a) ∧ (zso t n a = 1 ↔ a < n ∧ 65 ≤ t a ∧ t a ≤ 72) ∧ (zso t n a = 2 ↔ a < n ∧ zltr (t a) ∧ zwe t n a - a ≤ 12) ∧ (zso t n a = 3 ↔ a < n ∧ t a = 61) ∧ (zso t n a = 4 ↔ a < n ∧ t a = 124) ∧ (zso t n a = 5 ↔ a < n ∧ t a = 59) ∧ (zso t n a = 6 ↔ a < n ∧ t a = 91) ∧ (zso t n a = 7 ↔ a < n ∧ t a = 93) := by
  unfold zltr
  by_cases h : n ≤ a
  · rw [(zso_8 (t := t) h).1]
    omega
  · by_cases h1 : 65 ≤ t a ∧ t a ≤ 72
    · rw [(zso_1 h h1).1]
      omega
    · by_cases h2 : 97 ≤ t a ∧ t a ≤ 122
      · rw [(zso_w h h2).1]
        by_cases h3 : zwe t n a - a ≤ 12
        · rw [if_pos h3]; omega
        · rw [if_neg h3]; omega
      · rw [(zso_o h h1 h2).1]
        by_cases h3 : t a = 61
        · rw [if_pos h3]; omega
        · rw [if_neg h3]
          by_cases h4 : t a = 124
          · rw [if_pos h4]; omega
          · rw [if_neg h4]
            by_cases h5 : t a = 59
            · rw [if_pos h5]; omega
            · rw [if_neg h5]
              by_cases h6 : t a = 91
              · rw [if_pos h6]; omega
              · rw [if_neg h6]
                by_cases h7 : t a = 93
                · rw [if_pos h7]; omega
                · rw [if_neg h7]; omega
theorem zat_w4 {t : Nat → Int} {n f a : Nat} {w : Nat × (Nat → Nat × Nat)} {tk : List Nat} {rs : Nat → Int} {it op st nm rl : Nat} {R : (Nat × Nat) ⊕ zσ} (hf : n - a ≤ f) (hsp : a < n → ¬ (t a = 32 ∨ t a = 10)) (hR : R = zprs t n f a (w, tk, rs, it, op, st, nm, rl)) (han : a < n) (h0 : st = 2) (h1 : zltr (t a)) (h2 : zwe t n a - a ≤ 12) (h3 : 120 ≤ it) : R = Sum.inl (4, a) := by
  obtain ⟨f', rfl⟩ : ∃ f', f = f' + 1 := ⟨f - 1, by omega⟩
  rw [hR, zprs_l (by omega) (ztkn_w4 (hsp han) h1 (by omega) h3)]
theorem zat_w {t : Nat → Int} {n f a : Nat} {w : Nat × (Nat → Nat × Nat)} {tk : List Nat} {rs : Nat → Int} {it op st nm rl : Nat} {R : (Nat × Nat) ⊕ zσ} (hf : n - a ≤ f) (hsp : a < n → ¬ (t a = 32 ∨ t a = 10)) (hR : R = zprs t n f a (w, tk, rs, it, op, st, nm, rl)) (han : a < n) (h0 : st = 2) (h1 : zltr (t a)) (h2 : zwe t n a - a ≤ 12) (h3 : ¬ 120 ≤ it) : ∃ f' : Nat, n - (zwe t n a) ≤ f' ∧ R = zprs t n f' (zwe t n a) (zadw t a (zwe t n a - a) w, tk ++ [zfi (zsw2 t w.2 a (zwe t n a - a)) w.1], rs, it + 1, op, st, nm, rl) := by
  obtain ⟨f', rfl⟩ : ∃ f', f = f' + 1 := ⟨f - 1, by omega⟩
  refine ⟨f', ?_, ?_⟩
  · have := zwe_b94 (n := n) han (by assumption); omega
  · rw [hR, zprs_r (by omega) (ztkn_wo (hsp han) h1 (by omega) h3)]
theorem zat_w1 {t : Nat → Int} {n f a : Nat} {w : Nat × (Nat → Nat × Nat)} {tk : List Nat} {rs : Nat → Int} {it op st nm rl : Nat} {R : (Nat × Nat) ⊕ zσ} (hf : n - a ≤ f) (hsp : a < n → ¬ (t a = 32 ∨ t a = 10)) (hR : R = zprs t n f a (w, tk, rs, it, op, st, nm, rl)) (han : a < n) (h0 : zltr (t a)) (h1 : st ≠ 2 ∨ 12 < zwe t n a - a) : R = Sum.inl (1, a) := by
  obtain ⟨f', rfl⟩ : ∃ f', f = f' + 1 := ⟨f - 1, by omega⟩
  rw [hR, zprs_l (by omega) (ztkn_w1 (hsp han) h0 h1)]
theorem zat_n1 {t : Nat → Int} {n f a : Nat} {w : Nat × (Nat → Nat × Nat)} {tk : List Nat} {rs : Nat → Int} {it op st nm rl : Nat} {R : (Nat × Nat) ⊕ zσ} (hf : n - a ≤ f) (hsp : a < n → ¬ (t a = 32 ∨ t a = 10)) (hR : R = zprs t n f a (w, tk, rs, it, op, st, nm, rl)) (han : a < n) (h0 : st = 1) (h1 : 65 ≤ t a ∧ t a ≤ 72) : R = Sum.inl (1, a) := by
  obtain ⟨f', rfl⟩ : ∃ f', f = f' + 1 := ⟨f - 1, by omega⟩
  rw [hR, zprs_l (by omega) (ztkn_n1 (hsp han) (by unfold zltr; omega) (by omega) h0)]
theorem zat_n2 {t : Nat → Int} {n f a : Nat} {w : Nat × (Nat → Nat × Nat)} {tk : List Nat} {rs : Nat → Int} {it op st nm rl : Nat} {R : (Nat × Nat) ⊕ zσ} (hf : n - a ≤ f) (hsp : a < n → ¬ (t a = 32 ∨ t a = 10)) (hR : R = zprs t n f a (w, tk, rs, it, op, st, nm, rl)) (han : a < n) (h0 : st = 0) (h1 : 65 ≤ t a ∧ t a ≤ 72) (h2 : 0 ≤ rs (t a - 65).toNat) : R = Sum.inl (2, a) := by
  obtain ⟨f', rfl⟩ : ∃ f', f = f' + 1 := ⟨f - 1, by omega⟩
  rw [hR, zprs_l (by omega) (ztkn_n2 (hsp han) (by unfold zltr; omega) (by omega) (by omega) h0 h2)]
theorem zat_n0 {t : Nat → Int} {n f a : Nat} {w : Nat × (Nat → Nat × Nat)} {tk : List Nat} {rs : Nat → Int} {it op st nm rl : Nat} {R : (Nat × Nat) ⊕ zσ} (hf : n - a ≤ f) (hsp : a < n → ¬ (t a = 32 ∨ t a = 10)) (hR : R = zprs t n f a (w, tk, rs, it, op, st, nm, rl)) (han : a < n) (h0 : st = 0) (h1 : 65 ≤ t a ∧ t a ≤ 72) (h2 : ¬ 0 ≤ rs (t a - 65).toNat) : ∃ f' : Nat, n - (a + 1) ≤ f' ∧ R = zprs t n f' (a + 1) (w, tk, rs, it, op, 1, (t a - 65).toNat, rl) := by
  obtain ⟨f', rfl⟩ : ∃ f', f = f' + 1 := ⟨f - 1, by omega⟩
  refine ⟨f', ?_, ?_⟩
  · omega
  · rw [hR, zprs_r (by omega) (ztkn_n0 (hsp han) (by unfold zltr; omega) (by omega) (by omega) h0 h2)]
theorem zat_n3 {t : Nat → Int} {n f a : Nat} {w : Nat × (Nat → Nat × Nat)} {tk : List Nat} {rs : Nat → Int} {it op st nm rl : Nat} {R : (Nat × Nat) ⊕ zσ} (hf : n - a ≤ f) (hsp : a < n → ¬ (t a = 32 ∨ t a = 10)) (hR : R = zprs t n f a (w, tk, rs, it, op, st, nm, rl)) (han : a < n) (h0 : st = 2) (h1 : 65 ≤ t a ∧ t a ≤ 72) (h2 : (t a - 65).toNat ≤ nm) : R = Sum.inl (3, a) := by
  obtain ⟨f', rfl⟩ : ∃ f', f = f' + 1 := ⟨f - 1, by omega⟩
  rw [hR, zprs_l (by omega) (ztkn_n3 (hsp han) (by unfold zltr; omega) (by omega) (by omega) (by omega) h2)]
theorem zat_n4 {t : Nat → Int} {n f a : Nat} {w : Nat × (Nat → Nat × Nat)} {tk : List Nat} {rs : Nat → Int} {it op st nm rl : Nat} {R : (Nat × Nat) ⊕ zσ} (hf : n - a ≤ f) (hsp : a < n → ¬ (t a = 32 ∨ t a = 10)) (hR : R = zprs t n f a (w, tk, rs, it, op, st, nm, rl)) (han : a < n) (h0 : st = 2) (h1 : 65 ≤ t a ∧ t a ≤ 72) (h2 : ¬ (t a - 65).toNat ≤ nm) (h3 : 120 ≤ it) : R = Sum.inl (4, a) := by
  obtain ⟨f', rfl⟩ : ∃ f', f = f' + 1 := ⟨f - 1, by omega⟩
  rw [hR, zprs_l (by omega) (ztkn_n4 (hsp han) (by unfold zltr; omega) (by omega) (by omega) (by omega) h2 h3)]
theorem zat_n {t : Nat → Int} {n f a : Nat} {w : Nat × (Nat → Nat × Nat)} {tk : List Nat} {rs : Nat → Int} {it op st nm rl : Nat} {R : (Nat × Nat) ⊕ zσ} (hf : n - a ≤ f) (hsp : a < n → ¬ (t a = 32 ∨ t a = 10)) (hR : R = zprs t n f a (w, tk, rs, it, op, st, nm, rl)) (han : a < n) (h0 : st = 2) (h1 : 65 ≤ t a ∧ t a ≤ 72) (h2 : ¬ (t a - 65).toNat ≤ nm) (h3 : ¬ 120 ≤ it) : ∃ f' : Nat, n - (a + 1) ≤ f' ∧ R = zprs t n f' (a + 1) (w, tk ++ [124 + (t a - 65).toNat], rs, it + 1, op, st, nm, rl) := by
  obtain ⟨f', rfl⟩ : ∃ f', f = f' + 1 := ⟨f - 1, by omega⟩
  refine ⟨f', ?_, ?_⟩
  · omega
  · rw [hR, zprs_r (by omega) (ztkn_no (hsp han) (by unfold zltr; omega) (by omega) (by omega) (by omega) h2 h3)]
theorem zat_eq {t : Nat → Int} {n f a : Nat} {w : Nat × (Nat → Nat × Nat)} {tk : List Nat} {rs : Nat → Int} {it op st nm rl : Nat} {R : (Nat × Nat) ⊕ zσ} (hf : n - a ≤ f) (hsp : a < n → ¬ (t a = 32 ∨ t a = 10)) (hR : R = zprs t n f a (w, tk, rs, it, op, st, nm, rl)) (han : a < n) (h0 : st = 1) (h1 : t a = 61) : ∃ f' : Nat, n - (a + 1) ≤ f' ∧ R = zprs t n f' (a + 1) (w, tk, (fun k => zcif (k = nm) (tk.length : Int) (rs k)), it, op, 2, nm, rl) := by
  obtain ⟨f', rfl⟩ : ∃ f', f = f' + 1 := ⟨f - 1, by omega⟩
  refine ⟨f', ?_, ?_⟩
  · omega
  · rw [hR, zprs_r (by omega) (ztkn_g1 (hsp han) (by unfold zltr; omega) (by omega) ⟨h1, h0⟩)]
theorem zat_g2 {t : Nat → Int} {n f a : Nat} {w : Nat × (Nat → Nat × Nat)} {tk : List Nat} {rs : Nat → Int} {it op st nm rl : Nat} {R : (Nat × Nat) ⊕ zσ} (hf : n - a ≤ f) (hsp : a < n → ¬ (t a = 32 ∨ t a = 10)) (hR : R = zprs t n f a (w, tk, rs, it, op, st, nm, rl)) (han : a < n) (h0 : ¬ zltr (t a)) (h1 : ¬ (65 ≤ t a ∧ t a < 73)) (h2 : ¬ (t a = 61 ∧ st = 1)) (h3 : st ≠ 2) : R = Sum.inl (1, a) := by
  obtain ⟨f', rfl⟩ : ∃ f', f = f' + 1 := ⟨f - 1, by omega⟩
  rw [hR, zprs_l (by omega) (ztkn_g2 (hsp han) h0 h1 h2 h3)]
theorem zat_br {t : Nat → Int} {n f a : Nat} {w : Nat × (Nat → Nat × Nat)} {tk : List Nat} {rs : Nat → Int} {it op st nm rl : Nat} {R : (Nat × Nat) ⊕ zσ} (hf : n - a ≤ f) (hsp : a < n → ¬ (t a = 32 ∨ t a = 10)) (hR : R = zprs t n f a (w, tk, rs, it, op, st, nm, rl)) (han : a < n) (h0 : st = 2) (h1 : t a = 124) : ∃ f' : Nat, n - (a + 1) ≤ f' ∧ R = zprs t n f' (a + 1) (w, tk ++ [121], rs, it, op, st, nm, rl) := by
  obtain ⟨f', rfl⟩ : ∃ f', f = f' + 1 := ⟨f - 1, by omega⟩
  refine ⟨f', ?_, ?_⟩
  · omega
  · rw [hR, zprs_r (by omega) (ztkn_br (hsp han) (by unfold zltr; omega) (by omega) (by omega) (by omega) h1)]
theorem zat_o4 {t : Nat → Int} {n f a : Nat} {w : Nat × (Nat → Nat × Nat)} {tk : List Nat} {rs : Nat → Int} {it op st nm rl : Nat} {R : (Nat × Nat) ⊕ zσ} (hf : n - a ≤ f) (hsp : a < n → ¬ (t a = 32 ∨ t a = 10)) (hR : R = zprs t n f a (w, tk, rs, it, op, st, nm, rl)) (han : a < n) (h0 : st = 2) (h1 : t a = 91) (h2 : 4 ≤ op ∨ 120 ≤ it) : R = Sum.inl (4, a) := by
  obtain ⟨f', rfl⟩ : ∃ f', f = f' + 1 := ⟨f - 1, by omega⟩
  rw [hR, zprs_l (by omega) (ztkn_o4 (hsp han) (by unfold zltr; omega) (by omega) (by omega) (by omega) (by omega) h1 h2)]
theorem zat_oo {t : Nat → Int} {n f a : Nat} {w : Nat × (Nat → Nat × Nat)} {tk : List Nat} {rs : Nat → Int} {it op st nm rl : Nat} {R : (Nat × Nat) ⊕ zσ} (hf : n - a ≤ f) (hsp : a < n → ¬ (t a = 32 ∨ t a = 10)) (hR : R = zprs t n f a (w, tk, rs, it, op, st, nm, rl)) (han : a < n) (h0 : st = 2) (h1 : t a = 91) (h2 : ¬ (4 ≤ op ∨ 120 ≤ it)) : ∃ f' : Nat, n - (a + 1) ≤ f' ∧ R = zprs t n f' (a + 1) (w, tk ++ [120], rs, it + 1, op + 1, st, nm, rl) := by
  obtain ⟨f', rfl⟩ : ∃ f', f = f' + 1 := ⟨f - 1, by omega⟩
  refine ⟨f', ?_, ?_⟩
  · omega
  · rw [hR, zprs_r (by omega) (ztkn_oo (hsp han) (by unfold zltr; omega) (by omega) (by omega) (by omega) (by omega) h1 h2)]
theorem zat_cl {t : Nat → Int} {n f a : Nat} {w : Nat × (Nat → Nat × Nat)} {tk : List Nat} {rs : Nat → Int} {it op st nm rl : Nat} {R : (Nat × Nat) ⊕ zσ} (hf : n - a ≤ f) (hsp : a < n → ¬ (t a = 32 ∨ t a = 10)) (hR : R = zprs t n f a (w, tk, rs, it, op, st, nm, rl)) (han : a < n) (h0 : st = 2) (h1 : t a = 93) (h2 : 0 < op) : ∃ f' : Nat, n - (a + 1) ≤ f' ∧ R = zprs t n f' (a + 1) (w, tk ++ [122], rs, it, op - 1, st, nm, rl) := by
  obtain ⟨f', rfl⟩ : ∃ f', f = f' + 1 := ⟨f - 1, by omega⟩
  refine ⟨f', ?_, ?_⟩
  · omega
  · rw [hR, zprs_r (by omega) (ztkn_cl (hsp han) (by unfold zltr; omega) (by omega) (by omega) (by omega) (by omega) (by omega) ⟨h1, h2⟩)]
theorem zat_fi {t : Nat → Int} {n f a : Nat} {w : Nat × (Nat → Nat × Nat)} {tk : List Nat} {rs : Nat → Int} {it op st nm rl : Nat} {R : (Nat × Nat) ⊕ zσ} (hf : n - a ≤ f) (hsp : a < n → ¬ (t a = 32 ∨ t a = 10)) (hR : R = zprs t n f a (w, tk, rs, it, op, st, nm, rl)) (han : a < n) (h0 : st = 2) (h1 : t a = 59) (h2 : op = 0) : ∃ f' : Nat, n - (a + 1) ≤ f' ∧ R = zprs t n f' (a + 1) (w, tk ++ [123], rs, it, op, 0, nm, rl + 1) := by
  obtain ⟨f', rfl⟩ : ∃ f', f = f' + 1 := ⟨f - 1, by omega⟩
  refine ⟨f', ?_, ?_⟩
  · omega
  · rw [hR, zprs_r (by omega) (ztkn_fi (hsp han) (by unfold zltr; omega) (by omega) (by omega) (by omega) (by omega) (by omega) (by omega) ⟨h1, h2⟩)]
theorem zat_bad {t : Nat → Int} {n f a : Nat} {w : Nat × (Nat → Nat × Nat)} {tk : List Nat} {rs : Nat → Int} {it op st nm rl : Nat} {R : (Nat × Nat) ⊕ zσ} (hf : n - a ≤ f) (hsp : a < n → ¬ (t a = 32 ∨ t a = 10)) (hR : R = zprs t n f a (w, tk, rs, it, op, st, nm, rl)) (han : a < n) (h0 : st = 2) (h1 : ¬ zltr (t a)) (h2 : ¬ (65 ≤ t a ∧ t a < 73)) (h3 : t a ≠ 124) (h4 : t a ≠ 91) (h5 : ¬ (t a = 93 ∧ 0 < op)) (h6 : ¬ (t a = 59 ∧ op = 0)) : R = Sum.inl (1, a) := by
  obtain ⟨f', rfl⟩ : ∃ f', f = f' + 1 := ⟨f - 1, by omega⟩
  rw [hR, zprs_l (by omega) (ztkn_bad (hsp han) h1 h2 (by omega) (by omega) h3 h4 h5 h6)]
theorem zat_e1 {t : Nat → Int} {n f a : Nat} {w : Nat × (Nat → Nat × Nat)} {tk : List Nat} {rs : Nat → Int} {it op st nm rl : Nat} {R : (Nat × Nat) ⊕ zσ} (hR : R = zprs t n f a (w, tk, rs, it, op, st, nm, rl)) (han : n ≤ a) (h : st ≠ 0) : R = Sum.inl (1, a) := by
  rw [hR, zprs_e han, zcif_n h]
theorem zat_e0 {t : Nat → Int} {n f a : Nat} {w : Nat × (Nat → Nat × Nat)} {tk : List Nat} {rs : Nat → Int} {it op st nm rl : Nat} {R : (Nat × Nat) ⊕ zσ} (hR : R = zprs t n f a (w, tk, rs, it, op, st, nm, rl)) (han : n ≤ a) (h : st = 0) : R = Sum.inr (w, tk, rs, it, op, st, nm, rl) := by
  rw [hR, zprs_e han, zcif_p h]
