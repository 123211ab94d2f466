/-- a row under way, with its last item -/
def zRo {α : Type} (p : α → Nat → Nat → Nat → Nat → Prop) (N : Nat → Int) : List α → Nat → Nat → Nat → Nat → Int → Int → Int → Int → Prop
  | [], i, l, i', l', v, e, b, k => i' = i ∧ l' = l ∧ v = e ∧ k = b
  | a :: r, i, l, i', l', v, e, _, k => v = i ∧ ∃ i1 l1 : Nat, p a i l i1 l1 ∧ zRo p N r i1 l1 i' l' (N i) e i k
theorem zRo_r {α : Type} {p : α → Nat → Nat → Nat → Nat → Prop} {N : Nat → Int} : ∀ (r : List α) (i l i' l' : Nat) (v e b k : Int), zRo p N r i l i' l' v e b k → zRrow p N r i l i' l' v e
  | [], _, _, _, _, _, _, _, _, h => ⟨h.1, h.2.1, h.2.2.1⟩
  | a :: r, i, l, i', l', v, e, b, k, h => by
    obtain ⟨h1, i1, l1, h2, h3⟩ := h
    exact ⟨h1, i1, l1, h2, zRo_r r _ _ _ _ _ _ _ _ h3⟩
theorem zRo_m {α : Type} {p : α → Nat → Nat → Nat → Nat → Prop} {N : Nat → Int} (hp : ∀ a i l i' l', p a i l i' l' → i < i' ∧ l ≤ l') (r : List α) (i l i' l' : Nat) (v e b k : Int) (h : zRo p N r i l i' l' v e b k) : i ≤ i' ∧ l ≤ l' := zRrow_m hp r _ _ _ _ _ _ (zRo_r r _ _ _ _ _ _ _ _ h)
/-- one item more -/
theorem zRo_a {α : Type} {p : α → Nat → Nat → Nat → Nat → Prop} {N : Nat → Int} {a : α} {i1 l1 i2 l2 : Nat} (ha : p a i1 l1 i2 l2) (hN : N i1 = -1) : ∀ (r : List α) (i l : Nat) (v b k : Int), zRo p N r i l i1 l1 v i1 b k → zRo p N (r ++ [a]) i l i2 l2 v (-1) b i1
  | [], i, l, v, b, k, h => by
    obtain ⟨h1, h2, h3, _⟩ := h
    subst h1 h2
    exact ⟨h3, i2, l2, ha, rfl, rfl, hN, rfl⟩
  | c :: r, i, l, v, b, k, h => by
    obtain ⟨h1, i3, l3, h2, h3⟩ := h
    exact ⟨h1, i3, l3, h2, zRo_a ha hN r _ _ _ _ _ h3⟩
/-- the end of the chain is set -/
theorem zRo_s {α : Type} {p p' : α → Nat → Nat → Nat → Nat → Prop} {N N' : Nat → Int} (hm : ∀ a i l i' l', p a i l i' l' → i < i' ∧ l ≤ l') {e' : Int} : ∀ (r : List α) (i l i' l' : Nat) (v e b k : Int), r ≠ [] → zRo p N r i l i' l' v e b k → (∀ a i1 l1 i2 l2, i ≤ i1 → i2 ≤ i' → l ≤ l1 → l2 ≤ l' → p a i1 l1 i2 l2 → p' a i1 l1 i2 l2) → (∀ j : Nat, i ≤ j → j < i' → (j : Int) ≠ k → N' j = N j) → (∀ j : Nat, (j : Int) = k → N' j = e') → (∃ j : Nat, k = j ∧ i ≤ j ∧ j < i') ∧ zRo p' N' r i l i' l' v e' b k
  | [], _, _, _, _, _, _, _, _, hne, _, _, _, _ => absurd rfl hne
  | [a], i, l, i', l', v, e, b, k, _, h, hp, hN, hk => by
    obtain ⟨h1, i1, l1, h2, h3, h4, h5, h6⟩ := h
    subst h3 h4
    have := hm _ _ _ _ _ h2
    exact ⟨⟨i, h6, by omega, by omega⟩, h1, i', l', hp _ _ _ _ _ (by omega) (by omega) (by omega) (by omega) h2, rfl, rfl, hk i h6.symm, h6⟩
  | a :: c :: r, i, l, i', l', v, e, b, k, _, h, hp, hN, hk => by
    obtain ⟨h1, i1, l1, h2, h3⟩ := h
    have m1 := hm _ _ _ _ _ h2
    have m2 := zRo_m hm (c :: r) _ _ _ _ _ _ _ _ h3
    obtain ⟨⟨j, j1, j2, j3⟩, h4⟩ := zRo_s (p' := p') (N' := N') (e' := e') hm (c :: r) i1 l1 i' l' (N i) e i k (by simp) h3 (fun a x y x' y' q1 q2 q3 q4 => hp a x y x' y' (by omega) q2 (by omega) q4) (fun j q1 q2 q3 => hN j (by omega) q2 q3) hk
    refine ⟨⟨j, j1, by omega, j3⟩, h1, i1, l1, hp _ _ _ _ _ (by omega) (by omega) (by omega) (by omega) h2, ?_⟩
    rw [hN i (Nat.le_refl _) (by omega) (by omega)]
    exact h4
/-- a row keeps where what it uses keeps -/
theorem zRo_c {α : Type} {p p' : α → Nat → Nat → Nat → Nat → Prop} {N N' : Nat → Int} (hm : ∀ a i l i' l', p a i l i' l' → i < i' ∧ l ≤ l') : ∀ (r : List α) (i l i' l' : Nat) (v e b k : Int), zRo p N r i l i' l' v e b k → (∀ a i1 l1 i2 l2, i ≤ i1 → i2 ≤ i' → l ≤ l1 → l2 ≤ l' → p a i1 l1 i2 l2 → p' a i1 l1 i2 l2) → (∀ j : Nat, i ≤ j → j < i' → N' j = N j) → zRo p' N' r i l i' l' v e b k
  | [], _, _, _, _, _, _, _, _, h, _, _ => h
  | a :: r, i, l, i', l', v, e, b, k, h, hp, hN => by
    obtain ⟨h1, i1, l1, h2, h3⟩ := h
    have m1 := hm _ _ _ _ _ h2
    have m2 := zRo_m hm r _ _ _ _ _ _ _ _ h3
    refine ⟨h1, i1, l1, hp _ _ _ _ _ (by omega) (by omega) (by omega) (by omega) h2, ?_⟩
    rw [hN i (Nat.le_refl _) (by omega)]
    exact zRo_c hm r _ _ _ _ _ _ _ _ h3 (fun a x y x' y' q1 q2 q3 q4 => hp a x y x' y' (by omega) q2 (by omega) q4) (fun j q1 q2 => hN j (by omega) q2)
theorem zRrow_c {α : Type} {p p' : α → Nat → Nat → Nat → Nat → Prop} {N N' : Nat → Int} (hm : ∀ a i l i' l', p a i l i' l' → i < i' ∧ l ≤ l') : ∀ (r : List α) (i l i' l' : Nat) (v e : Int), zRrow p N r i l i' l' v e → (∀ a i1 l1 i2 l2, i ≤ i1 → i2 ≤ i' → l ≤ l1 → l2 ≤ l' → p a i1 l1 i2 l2 → p' a i1 l1 i2 l2) → (∀ j : Nat, i ≤ j → j < i' → N' j = N j) → zRrow p' N' r i l i' l' v e
  | [], _, _, _, _, _, _, h, _, _ => h
  | a :: r, i, l, i', l', v, e, h, hp, hN => by
    obtain ⟨h1, i1, l1, h2, h3⟩ := h
    have m1 := hm _ _ _ _ _ h2
    have m2 := zRrow_m hm r _ _ _ _ _ _ h3
    refine ⟨h1, i1, l1, hp _ _ _ _ _ (by omega) (by omega) (by omega) (by omega) h2, ?_⟩
    rw [hN i (Nat.le_refl _) (by omega)]
    exact zRrow_c hm r _ _ _ _ _ _ h3 (fun a x y x' y' q1 q2 q3 q4 => hp a x y x' y' (by omega) q2 (by omega) q4) (fun j q1 q2 => hN j (by omega) q2)
theorem zRrs_c {α : Type} {p p' : α → Nat → Nat → Nat → Nat → Prop} {N N' I I' X X' : Nat → Int} (hm : ∀ a i l i' l', p a i l i' l' → i < i' ∧ l ≤ l') : ∀ (rs : List (List α)) (i l i' l' c : Nat), zRrs p N I X rs i l i' l' c → c < l → (∀ a i1 l1 i2 l2, i ≤ i1 → i2 ≤ i' → l ≤ l1 → l2 ≤ l' → p a i1 l1 i2 l2 → p' a i1 l1 i2 l2) → (∀ j : Nat, i ≤ j → j < i' → N' j = N j) → (∀ j : Nat, c ≤ j → j < l' → I' j = I j ∧ X' j = X j) → zRrs p' N' I' X' rs i l i' l' c
  | [], _, _, _, _, _, h, _, _, _, _ => h.elim
  | [r], i, l, i', l', c, h, hc, hp, hN, hI => by
    have m1 := zRrow_m hm r _ _ _ _ _ _ h.1
    obtain ⟨q1, q2⟩ := hI c (Nat.le_refl _) (by omega)
    exact ⟨by rw [q1]; exact zRrow_c hm r _ _ _ _ _ _ h.1 hp hN, by rw [q2]; exact h.2⟩
  | r :: q :: rs, i, l, i', l', c, h, hc, hp, hN, hI => by
    obtain ⟨i1, l1, h1, h2, h3⟩ := h
    have m1 := zRrow_m hm r _ _ _ _ _ _ h1
    have m2 := zRrs_m hm (q :: rs) _ _ _ _ _ h3
    obtain ⟨q1, q2⟩ := hI c (Nat.le_refl _) (by omega)
    refine ⟨i1, l1, ?_, by rw [q2]; exact h2, ?_⟩
    · rw [q1]; exact zRrow_c hm r _ _ _ _ _ _ h1 (fun a x y x' y' q1 q2 q3 q4 => hp a x y x' y' q1 (by omega) q3 (by omega)) (fun j q1 q2 => hN j q1 (by omega))
    · exact zRrs_c hm (q :: rs) _ _ _ _ _ h3 (by omega) (fun a x y x' y' q1 q2 q3 q4 => hp a x y x' y' (by omega) q2 (by omega) q4) (fun j q1 q2 => hN j (by omega) q2) (fun j q1 q2 => hI j (by omega) q2)
