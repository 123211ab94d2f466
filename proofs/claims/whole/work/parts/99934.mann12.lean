theorem zsk_b {t : Nat → Int} {n e : Nat} (he : e ≤ n) : e ≤ zsk t n e ∧ zsk t n e ≤ n ∧ (zsk t n e < n → ¬ (t (zsk t n e) = 32 ∨ t (zsk t n e) = 10)) := by
  obtain ⟨a1, a2, a3⟩ := zfi_p (P := fun j => ¬ (t (e + j) = 32 ∨ t (e + j) = 10)) (n - e)
  unfold zsk
  refine ⟨by omega, by omega, fun h => a3 (by omega)⟩
/-- the class goes over spaces, too -/
theorem zprs_k {t : Nat → Int} {n f e : Nat} {w : Nat × (Nat → Nat × Nat)} {tk : List Nat} {rs : Nat → Int} {it op st nm rl : Nat} {R : (Nat × Nat) ⊕ zσ} (he : e ≤ n) (hf : n - e ≤ f) (hR : R = zprs t n f e (w, tk, rs, it, op, st, nm, rl)) : ∃ f' : Nat, n - zsk t n e ≤ f' ∧ R = zprs t n f' (zsk t n e) (w, tk, rs, it, op, st, nm, rl) := by
  obtain ⟨a1, a2, a3⟩ := zfi_p (P := fun j => ¬ (t (e + j) = 32 ∨ t (e + j) = 10)) (n - e)
  have key : ∀ j : Nat, j ≤ zfi (fun j => ¬ (t (e + j) = 32 ∨ t (e + j) = 10)) (n - e) → ∃ f' : Nat, n - (e + j) ≤ f' ∧ R = zprs t n f' (e + j) (w, tk, rs, it, op, st, nm, rl) := by
    intro j
    induction j with
    | zero => intro _; exact ⟨f, hf, hR⟩
    | succ j ih =>
      intro hj
      obtain ⟨f1, h1, h2⟩ := ih (by clear ih; omega)
      clear ih
      obtain ⟨f2, rfl⟩ : ∃ f2, f1 = f2 + 1 := ⟨f1 - 1, by omega⟩
      refine ⟨f2, by omega, ?_⟩
      rw [h2, zprs_r (by omega) (ztkn_sp (Classical.not_not.mp (a2 j (by omega))))]
      rfl
  exact key _ (Nat.le_refl _)
/-! rows and items in the reference: an item that begins at item i, line l and ends at (i', l') uses nothing else -/
def zRrow {α : Type} (p : α → Nat → Nat → Nat → Nat → Prop) (N : Nat → Int) : List α → Nat → Nat → Nat → Nat → Int → Int → Prop
  | [], i, l, i', l', v, e => i' = i ∧ l' = l ∧ v = e
  | a :: r, i, l, i', l', v, e => v = i ∧ ∃ i1 l1 : Nat, p a i l i1 l1 ∧ zRrow p N r i1 l1 i' l' (N i) e
def zRrs {α : Type} (p : α → Nat → Nat → Nat → Nat → Prop) (N I X : Nat → Int) : List (List α) → Nat → Nat → Nat → Nat → Nat → Prop
  | [], _, _, _, _, _ => False
  | [r], i, l, i', l', c => zRrow p N r i l i' l' (I c) (-1) ∧ X c = -1
  | r :: q :: rs, i, l, i', l', c => ∃ i1 l1 : Nat, zRrow p N r i l i1 l1 (I c) (-1) ∧ X c = l1 ∧ zRrs p N I X (q :: rs) i1 (l1 + 1) i' l' l1
/-- a leaf: a word of the class, or a name -/
def zRlf (H : zH) (o : Nat) (t : Nat → Int) (w : Nat × (Nat → Nat × Nat)) (x i : Nat) : Prop := (x < 120 ∧ x < w.1 ∧ zA H 149 (o + i) = 0 ∧ zA H 153 (o + i) = (w.2 x).2 ∧ ∀ j : Nat, j < (w.2 x).2 → zA H 152 (12 * (o + i) + j) = t ((w.2 x).1 + j)) ∨ (124 ≤ x ∧ x < 132 ∧ zA H 149 (o + i) = 1 ∧ zA H 150 (o + i) = (x - 124 : Nat))
def zRi (H : zH) (o p : Nat) (t : Nat → Int) (w : Nat × (Nat → Nat × Nat)) : (n : Nat) → zIt n → Nat → Nat → Nat → Nat → Prop
  | 0 => fun (x : Nat) i l i' l' => zRlf H o t w x i ∧ i' = i + 1 ∧ l' = l
  | n + 1 => fun (it : Nat ⊕ List (List (zIt n))) i l i' l' => match it with
    | Sum.inl x => zRlf H o t w x i ∧ i' = i + 1 ∧ l' = l
    | Sum.inr rs => zA H 149 (o + i) = 2 ∧ zA H 150 (o + i) = l ∧ zRrs (zRi H o p t w n) (fun k => zA H 151 (o + k)) (fun k => zA H 154 (p + k)) (fun k => zA H 155 (p + k)) rs (i + 1) (l + 1) i' l' l
theorem zRrow_m {α : Type} {p : α → Nat → Nat → Nat → Nat → Prop} {N : Nat → Int} (hp : ∀ a i l i' l', p a i l i' l' → i < i' ∧ l ≤ l') : ∀ (r : List α) (i l i' l' : Nat) (v e : Int), zRrow p N r i l i' l' v e → i ≤ i' ∧ l ≤ l'
  | [], i, l, i', l', v, e, h => by
    obtain ⟨h1, h2, _⟩ := h
    omega
  | a :: r, i, l, i', l', v, e, h => by
    obtain ⟨_, i1, l1, h1, h2⟩ := h
    have a1 := hp _ _ _ _ _ h1
    have a2 := zRrow_m hp r _ _ _ _ _ _ h2
    omega
theorem zRrs_m {α : Type} {p : α → Nat → Nat → Nat → Nat → Prop} {N I X : Nat → Int} (hp : ∀ a i l i' l', p a i l i' l' → i < i' ∧ l ≤ l') : ∀ (rs : List (List α)) (i l i' l' c : Nat), zRrs p N I X rs i l i' l' c → i ≤ i' ∧ l ≤ l'
  | [], _, _, _, _, _, h => h.elim
  | [r], i, l, i', l', c, h => zRrow_m hp r _ _ _ _ _ _ h.1
  | r :: q :: rs, i, l, i', l', c, h => by
    obtain ⟨i1, l1, h1, _, h2⟩ := h
    have a1 := zRrow_m hp r _ _ _ _ _ _ h1
    have a2 := zRrs_m hp (q :: rs) _ _ _ _ _ h2
    omega
theorem zRi_m {H : zH} {o p : Nat} {t : Nat → Int} {w : Nat × (Nat → Nat × Nat)} : ∀ (n : Nat) (it : zIt n) (i l i' l' : Nat), zRi H o p t w n it i l i' l' → i < i' ∧ l ≤ l'
  | 0, _, i, l, i', l', h => by
    obtain ⟨_, h1, h2⟩ := h
    omega
  | n + 1, it, i, l, i', l', h => by
    match it, h with
    | Sum.inl x, h =>
      obtain ⟨_, h1, h2⟩ := h
      omega
    | Sum.inr rs, h =>
      obtain ⟨_, _, h3⟩ := h
      have := zRrs_m (zRi_m n) rs _ _ _ _ _ h3
      omega
