/-! ===== manners: reading ===== -/
/-- the least number below k that P holds for, or k -/
noncomputable def zfi (P : Nat → Prop) : Nat → Nat
  | 0 => 0
  | k + 1 => zcif (zfi P k < k) (zfi P k) (zcif (P k) k (k + 1))
theorem zfi_p {P : Nat → Prop} : ∀ k : Nat, zfi P k ≤ k ∧ (∀ j : Nat, j < zfi P k → ¬ P j) ∧ (zfi P k < k → P (zfi P k))
  | 0 => ⟨Nat.le_refl _, fun j hj => absurd hj (Nat.not_lt_zero j), fun h => absurd h (Nat.lt_irrefl 0)⟩
  | k + 1 => by
    obtain ⟨h1, h2, h3⟩ := zfi_p (P := P) k
    show zcif (zfi P k < k) (zfi P k) (zcif (P k) k (k + 1)) ≤ k + 1 ∧ (∀ j : Nat, j < zcif (zfi P k < k) (zfi P k) (zcif (P k) k (k + 1)) → ¬ P j) ∧ (zcif (zfi P k < k) (zfi P k) (zcif (P k) k (k + 1)) < k + 1 → P (zcif (zfi P k < k) (zfi P k) (zcif (P k) k (k + 1))))
    by_cases q : zfi P k < k
    · rw [zcif_p q]; exact ⟨by omega, h2, fun _ => h3 q⟩
    · rw [zcif_n q]
      have e : zfi P k = k := by omega
      rw [e] at h2
      by_cases q2 : P k
      · rw [zcif_p q2]; exact ⟨by omega, h2, fun _ => q2⟩
      · rw [zcif_n q2]
        refine ⟨by omega, fun j hj hP => ?_, fun h => by omega⟩
        by_cases e2 : j = k
        · rw [e2] at hP; exact q2 hP
        · exact h2 j (by omega) hP
theorem zfi_u {P : Nat → Prop} {k r : Nat} (h1 : r ≤ k) (h2 : ∀ j : Nat, j < r → ¬ P j) (h3 : r < k → P r) : zfi P k = r := by
  obtain ⟨a, b, c⟩ := zfi_p (P := P) k
  rcases Nat.lt_trichotomy (zfi P k) r with q | q | q
  · exact absurd (c (by omega)) (h2 _ q)
  · exact q
  · exact absurd (h3 (by omega)) (b _ q)
def zltr (x : Int) : Prop := 97 ≤ x ∧ x ≤ 122
/-- where the letters from p on end -/
noncomputable def zwe (t : Nat → Int) (n p : Nat) : Nat := p + zfi (fun j => ¬ zltr (t (p + j))) (n - p)
/-- words, tokens, where rules begin, items, open brackets, state, name, rules -/
abbrev zσ : Type := (Nat × (Nat → Nat × Nat)) × List Nat × (Nat → Int) × Nat × Nat × Nat × Nat × Nat
/-- the word of size s at p is word w -/
def zsw2 (t : Nat → Int) (ws : Nat → Nat × Nat) (p s w : Nat) : Prop := (ws w).2 = s ∧ ∀ j : Nat, j < s → t ((ws w).1 + j) = t (p + j)
noncomputable def zadw (t : Nat → Int) (p s : Nat) (w : Nat × (Nat → Nat × Nat)) : Nat × (Nat → Nat × Nat) := zcif (zfi (zsw2 t w.2 p s) w.1 < w.1) w (w.1 + 1, fun j => zcif (j = w.1) (p, s) (w.2 j))
/-- one token: a fault's kind, or the next place and state -/
noncomputable def ztkn (t : Nat → Int) (n p : Nat) : zσ → Nat ⊕ (Nat × zσ)
  | (w, tk, rs, it, op, st, nm, rl) =>
    zcif (t p = 32 ∨ t p = 10) (Sum.inr (p + 1, (w, tk, rs, it, op, st, nm, rl)))
    (zcif (zltr (t p))
      (zcif (st ≠ 2 ∨ 12 < zwe t n p - p) (Sum.inl 1)
      (zcif (120 ≤ it) (Sum.inl 4)
        (Sum.inr (zwe t n p, (zadw t p (zwe t n p - p) w, tk ++ [zfi (zsw2 t w.2 p (zwe t n p - p)) w.1], rs, it + 1, op, st, nm, rl)))))
    (zcif (65 ≤ t p ∧ t p < 73)
      (zcif (st = 1) (Sum.inl 1)
      (zcif (st = 0) (zcif (0 ≤ rs (t p - 65).toNat) (Sum.inl 2) (Sum.inr (p + 1, (w, tk, rs, it, op, 1, (t p - 65).toNat, rl))))
      (zcif ((t p - 65).toNat ≤ nm) (Sum.inl 3)
      (zcif (120 ≤ it) (Sum.inl 4) (Sum.inr (p + 1, (w, tk ++ [124 + (t p - 65).toNat], rs, it + 1, op, st, nm, rl)))))))
    (zcif (t p = 61 ∧ st = 1) (Sum.inr (p + 1, (w, tk, (fun k => zcif (k = nm) (tk.length : Int) (rs k)), it, op, 2, nm, rl)))
    (zcif (st ≠ 2) (Sum.inl 1)
    (zcif (t p = 124) (Sum.inr (p + 1, (w, tk ++ [121], rs, it, op, st, nm, rl)))
    (zcif (t p = 91) (zcif (4 ≤ op ∨ 120 ≤ it) (Sum.inl 4) (Sum.inr (p + 1, (w, tk ++ [120], rs, it + 1, op + 1, st, nm, rl))))
    (zcif (t p = 93 ∧ 0 < op) (Sum.inr (p + 1, (w, tk ++ [122], rs, it, op - 1, st, nm, rl)))
    (zcif (t p = 59 ∧ op = 0) (Sum.inr (p + 1, (w, tk ++ [123], rs, it, op, 0, nm, rl + 1)))
      (Sum.inl 1)))))))))
/-- the whole text: a fault's kind and place, or the state at the end -/
noncomputable def zprs (t : Nat → Int) (n : Nat) : Nat → Nat → zσ → (Nat × Nat) ⊕ zσ
  | 0, p, s => zcif (s.2.2.2.2.2.1 = 0) (Sum.inr s) (Sum.inl (1, p))
  | f + 1, p, s => zcif (n ≤ p) (zcif (s.2.2.2.2.2.1 = 0) (Sum.inr s) (Sum.inl (1, p))) (match ztkn t n p s with
    | Sum.inl k => Sum.inl (k, p)
    | Sum.inr q => zprs t n f q.1 q.2)
