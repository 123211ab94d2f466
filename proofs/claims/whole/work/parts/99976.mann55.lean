/-! ===== sets of rows of words by cuts ===== -/
def yV (s : Nat → List Nat → Prop) (M : Nat → Nat → List Nat → Prop) : Nat → List Nat → Prop := fun j r => ∃ (k : Nat) (a b : List Nat), k ≤ j ∧ s k a ∧ M k j b ∧ r = a ++ b
def yP (M N : Nat → Nat → List Nat → Prop) : Nat → Nat → List Nat → Prop := fun i j r => ∃ (k : Nat) (a b : List Nat), i ≤ k ∧ k ≤ j ∧ M i k a ∧ N k j b ∧ r = a ++ b
def y1 : Nat → Nat → List Nat → Prop := fun i j r => i = j ∧ r = []
def yU (a b : Nat → List Nat → Prop) : Nat → List Nat → Prop := fun j r => a j r ∨ b j r
def yU2 (M N : Nat → Nat → List Nat → Prop) : Nat → Nat → List Nat → Prop := fun i j r => M i j r ∨ N i j r
def yW (cu rw : Nat → Int) (n x : Nat) : Nat → Nat → List Nat → Prop := fun i j r => r = [x] ∧ ((cu x < 0 ∧ j = i) ∨ (0 ≤ cu x ∧ j = i + 1 ∧ i < n ∧ rw i = cu x))
def yL (cu rw : Nat → Int) (n : Nat) (e : Nat → Nat → Nat → List Nat → Prop) (x : Nat) : Nat → Nat → List Nat → Prop := if x < 120 then yW cu rw n x else e (x - 124)
def yRow {α : Type} (f : α → Nat → Nat → List Nat → Prop) : List α → Nat → Nat → List Nat → Prop
  | [] => y1
  | a :: r => yP (f a) (yRow f r)
def yRs {α : Type} (f : α → Nat → Nat → List Nat → Prop) : List (List α) → Nat → Nat → List Nat → Prop
  | [] => fun _ _ _ => False
  | r :: rs => yU2 (yRow f r) (yRs f rs)
def yI (cu rw : Nat → Int) (nn : Nat) (e : Nat → Nat → Nat → List Nat → Prop) : (n : Nat) → zIt n → Nat → Nat → List Nat → Prop
  | 0 => fun (x : Nat) => yL cu rw nn e x
  | n + 1 => fun (it : Nat ⊕ List (List (zIt n))) => match it with
    | Sum.inl x => yL cu rw nn e x
    | Sum.inr rs => yU2 y1 (yRs (yI cu rw nn e n) rs)
def yE (ru : Nat → List (List (zIt 4))) (has : Nat → Bool) (cu rw : Nat → Int) (nn : Nat) : Nat → Nat → Nat → Nat → List Nat → Prop
  | 0 => fun _ _ _ _ => False
  | k + 1 => fun c => if c + k = 7 then (if has c then yRs (yI cu rw nn (yE ru has cu rw nn k) 4) (ru c) else fun _ _ _ => False) else yE ru has cu rw nn k c
theorem yE_s (ru : Nat → List (List (zIt 4))) (has : Nat → Bool) (cu rw : Nat → Int) (nn k c : Nat) : yE ru has cu rw nn (k + 1) c = if c + k = 7 then (if has c then yRs (yI cu rw nn (yE ru has cu rw nn k) 4) (ru c) else fun _ _ _ => False) else yE ru has cu rw nn k c := rfl
theorem yE_0 (ru : Nat → List (List (zIt 4))) (has : Nat → Bool) (cu rw : Nat → Int) (nn : Nat) : ∀ (k c : Nat), c + k ≤ 7 → yE ru has cu rw nn k c = fun _ _ _ => False
  | 0, _, _ => rfl
  | k + 1, c, h => by
    rw [yE_s, if_neg (by omega)]
    exact yE_0 ru has cu rw nn k c (by omega)
def yT (cu rw : Nat → Int) (nn : Nat) (e : Nat → Nat → Nat → List Nat → Prop) (x : Nat) (s : Nat → List Nat → Prop) : Nat → List Nat → Prop := yV s (yL cu rw nn e x)
theorem yV_1 (s : Nat → List Nat → Prop) : yV s y1 = s := by
  funext j r
  apply propext
  constructor
  · rintro ⟨k, a, b, _, h1, ⟨h2, h3⟩, h4⟩
    subst h2; subst h3; rw [h4, List.append_nil]; exact h1
  · intro h
    exact ⟨j, r, [], Nat.le_refl _, h, ⟨rfl, rfl⟩, (List.append_nil _).symm⟩
theorem yV_P (s : Nat → List Nat → Prop) (M N : Nat → Nat → List Nat → Prop) : yV (yV s M) N = yV s (yP M N) := by
  funext j r
  apply propext
  constructor
  · rintro ⟨k, a, b, h1, ⟨k', a', b', h2, h3, h4, h5⟩, h6, h7⟩
    exact ⟨k', a', b' ++ b, by omega, h3, ⟨k, b', b, h2, h1, h4, h6, rfl⟩, by rw [h7, h5, List.append_assoc]⟩
  · rintro ⟨k, a, b, h1, h2, ⟨k', a', b', h3, h4, h5, h6, h7⟩, h8⟩
    exact ⟨k', a ++ a', b', h4, ⟨k, a, a', h3, h2, h5, rfl⟩, h6, by rw [h8, h7, List.append_assoc]⟩
theorem yV_U (s : Nat → List Nat → Prop) (M N : Nat → Nat → List Nat → Prop) : yV s (yU2 M N) = yU (yV s M) (yV s N) := by
  funext j r
  apply propext
  constructor
  · rintro ⟨k, a, b, h1, h2, h3 | h3, h4⟩
    · exact Or.inl ⟨k, a, b, h1, h2, h3, h4⟩
    · exact Or.inr ⟨k, a, b, h1, h2, h3, h4⟩
  · rintro (⟨k, a, b, h1, h2, h3, h4⟩ | ⟨k, a, b, h1, h2, h3, h4⟩)
    · exact ⟨k, a, b, h1, h2, Or.inl h3, h4⟩
    · exact ⟨k, a, b, h1, h2, Or.inr h3, h4⟩
theorem yU_a (a b c : Nat → List Nat → Prop) : yU (yU a b) c = yU a (yU b c) := by
  funext j r
  exact propext ⟨fun h => by
    rcases h with (h | h) | h
    · exact Or.inl h
    · exact Or.inr (Or.inl h)
    · exact Or.inr (Or.inr h), fun h => by
    rcases h with h | h | h
    · exact Or.inl (Or.inl h)
    · exact Or.inl (Or.inr h)
    · exact Or.inr h⟩
theorem ys_row {α : Type} {g : α → (Nat → List Nat → Prop) → Nat → List Nat → Prop} {f : α → Nat → Nat → List Nat → Prop} (h : ∀ a s, g a s = yV s (f a)) : ∀ (r : List α) (s : Nat → List Nat → Prop), zsRow g r s = yV s (yRow f r)
  | [], s => (yV_1 s).symm
  | a :: r, s => by
    show zsRow g r (g a s) = yV s (yP (f a) (yRow f r))
    rw [ys_row h r, h a s, yV_P]
theorem ys_rs {α : Type} {g : α → (Nat → List Nat → Prop) → Nat → List Nat → Prop} {f : α → Nat → Nat → List Nat → Prop} (h : ∀ a s, g a s = yV s (f a)) : ∀ (rs : List (List α)) (s a : Nat → List Nat → Prop), zsRs yU g rs s a = yU a (yV s (yRs f rs))
  | [], s, a => by
    funext j r
    apply propext
    constructor
    · intro h; exact Or.inl h
    · rintro (h | ⟨k, x, y, _, _, h, _⟩)
      · exact h
      · exact h.elim
  | r :: rs, s, a => by
    show zsRs yU g rs s (yU a (zsRow g r s)) = yU a (yV s (yU2 (yRow f r) (yRs f rs)))
    rw [ys_rs h rs, ys_row h r, yV_U, yU_a]
theorem ys_i (cu rw : Nat → Int) (nn : Nat) (e : Nat → Nat → Nat → List Nat → Prop) : ∀ (n : Nat) (it : zIt n) (s : Nat → List Nat → Prop), zsI (yT cu rw nn e) yU n it s = yV s (yI cu rw nn e n it)
  | 0, (x : Nat), s => rfl
  | n + 1, Sum.inl x, s => rfl
  | n + 1, Sum.inr rs, s => by
    show zsRs yU (zsI (yT cu rw nn e) yU n) rs s s = yV s (yU2 y1 (yRs (yI cu rw nn e n) rs))
    rw [ys_rs (fun a s => ys_i cu rw nn e n a s) rs s s, yV_U, yV_1]
/-- from a cut on -/
def yF (f : Nat) : Nat → List Nat → Prop := fun j r => j = f ∧ r = []
theorem ys_top (cu rw : Nat → Int) (nn : Nat) (e : Nat → Nat → Nat → List Nat → Prop) (rows : List (List (zIt 4))) (f j : Nat) (hj : f ≤ j) : zsRs yU (zsI (yT cu rw nn e) yU 4) rows (yF f) (fun _ _ => False) j = yRs (yI cu rw nn e 4) rows f j := by
  rw [ys_rs (fun a s => ys_i cu rw nn e 4 a s) rows (yF f) (fun _ _ => False)]
  funext r
  apply propext
  constructor
  · rintro (h | ⟨k, a, b, h1, ⟨h2, h3⟩, h4, h5⟩)
    · exact h.elim
    · subst h2; subst h3; rw [h5]; exact h4
  · intro h
    exact Or.inr ⟨f, [], r, hj, ⟨rfl, rfl⟩, h, rfl⟩
/-! matrices: sums over the middle -/
theorem yP_1 (M : Nat → Nat → List Nat → Prop) {i j : Nat} (h : i ≤ j) : yP M y1 i j = M i j := by
  funext r
  apply propext
  constructor
  · rintro ⟨k, a, b, h1, h2, h3, ⟨h4, h5⟩, h6⟩
    subst h4; subst h5; rw [h6, List.append_nil]; exact h3
  · intro h9
    exact ⟨j, r, [], h, Nat.le_refl _, h9, ⟨rfl, rfl⟩, (List.append_nil _).symm⟩
theorem y1_P (M : Nat → Nat → List Nat → Prop) {i j : Nat} (h : i ≤ j) : yP y1 M i j = M i j := by
  funext r
  apply propext
  constructor
  · rintro ⟨k, a, b, h1, h2, ⟨h4, h5⟩, h3, h6⟩
    subst h4; subst h5; rw [h6]; exact h3
  · intro h9
    exact ⟨i, [], r, Nat.le_refl _, h, ⟨rfl, rfl⟩, h9, rfl⟩
theorem yP_a (M N O : Nat → Nat → List Nat → Prop) (i j : Nat) : yP (yP M N) O i j = yP M (yP N O) i j := by
  funext r
  apply propext
  constructor
  · rintro ⟨k, a, b, h0, h1, ⟨k', a', b', h2, h2', h3, h4, h5⟩, h6, h7⟩
    exact ⟨k', a', b' ++ b, h2, by omega, h3, ⟨k, b', b, h2', h1, h4, h6, rfl⟩, by rw [h7, h5, List.append_assoc]⟩
  · rintro ⟨k, a, b, h0, h1, h2, ⟨k', a', b', h3, h4, h5, h6, h7⟩, h8⟩
    exact ⟨k', a ++ a', b', by omega, h4, ⟨k, a, a', h0, h3, h2, h5, rfl⟩, h6, by rw [h8, h7, List.append_assoc]⟩
/-- the product up to a middle -/
def yPp (M N : Nat → Nat → List Nat → Prop) (i j kk : Nat) : List Nat → Prop := fun r => ∃ (k : Nat) (a b : List Nat), i ≤ k ∧ k ≤ j ∧ k < kk ∧ M i k a ∧ N k j b ∧ r = a ++ b
theorem yPp_0 (M N : Nat → Nat → List Nat → Prop) (i j kk : Nat) (h : kk ≤ i) : yPp M N i j kk = fun _ => False := by
  funext r
  apply propext
  constructor
  · rintro ⟨k, _, _, h1, _, h2, _⟩; omega
  · intro h; exact h.elim
theorem yPp_s (M N : Nat → Nat → List Nat → Prop) (i j kk : Nat) (h : i ≤ kk) (h2 : kk ≤ j) : yPp M N i j (kk + 1) = yOr (yPp M N i j kk) (yCc (M i kk) (N kk j)) := by
  funext r
  apply propext
  constructor
  · rintro ⟨k, a, b, h1, h2, h3, h4, h5, h6⟩
    by_cases e : k = kk
    · subst e; exact Or.inr ⟨a, b, h4, h5, h6⟩
    · exact Or.inl ⟨k, a, b, h1, h2, by omega, h4, h5, h6⟩
  · rintro (⟨k, a, b, h1, h2, h3, h4, h5, h6⟩ | ⟨a, b, h4, h5, h6⟩)
    · exact ⟨k, a, b, h1, h2, by omega, h4, h5, h6⟩
    · exact ⟨kk, a, b, h, h2, by omega, h4, h5, h6⟩
theorem yPp_o (M N : Nat → Nat → List Nat → Prop) (i j kk : Nat) (h : j < kk) : yPp M N i j kk = yP M N i j := by
  funext r
  apply propext
  constructor
  · rintro ⟨k, a, b, h1, h2, h3, h4, h5, h6⟩
    exact ⟨k, a, b, h1, h2, h4, h5, h6⟩
  · rintro ⟨k, a, b, h1, h2, h4, h5, h6⟩
    exact ⟨k, a, b, h1, h2, by omega, h4, h5, h6⟩
theorem yPp_f (M N : Nat → Nat → List Nat → Prop) (i j kk : Nat) (h : j < kk) : yPp M N i j (kk + 1) = yPp M N i j kk := by
  rw [yPp_o _ _ _ _ _ h, yPp_o _ _ _ _ _ (by omega)]
/-- the class's sum over the middle, from a cut on -/
def yVp (s : Nat → List Nat → Prop) (M : Nat → Nat → List Nat → Prop) (j kk : Nat) : List Nat → Prop := fun r => ∃ (k : Nat) (a b : List Nat), k ≤ j ∧ k < kk ∧ s k a ∧ M k j b ∧ r = a ++ b
theorem yVp_0 (s : Nat → List Nat → Prop) (M : Nat → Nat → List Nat → Prop) (j f : Nat) (hs : ∀ k : Nat, k < f → ∀ r, ¬ s k r) : yVp s M j f = fun _ => False := by
  funext r
  apply propext
  constructor
  · rintro ⟨k, a, _, _, h1, h2, _⟩; exact hs k h1 a h2
  · intro h; exact h.elim
theorem yVp_s (s : Nat → List Nat → Prop) (M : Nat → Nat → List Nat → Prop) (j kk : Nat) (h2 : kk ≤ j) : yVp s M j (kk + 1) = yOr (yVp s M j kk) (yCc (s kk) (M kk j)) := by
  funext r
  apply propext
  constructor
  · rintro ⟨k, a, b, h2, h3, h4, h5, h6⟩
    by_cases e : k = kk
    · subst e; exact Or.inr ⟨a, b, h4, h5, h6⟩
    · exact Or.inl ⟨k, a, b, h2, by omega, h4, h5, h6⟩
  · rintro (⟨k, a, b, h2, h3, h4, h5, h6⟩ | ⟨a, b, h4, h5, h6⟩)
    · exact ⟨k, a, b, h2, by omega, h4, h5, h6⟩
    · exact ⟨kk, a, b, h2, by omega, h4, h5, h6⟩
theorem yVp_o (s : Nat → List Nat → Prop) (M : Nat → Nat → List Nat → Prop) (j kk : Nat) (h : j < kk) : yVp s M j kk = yV s M j := by
  funext r
  apply propext
  constructor
  · rintro ⟨k, a, b, h2, h3, h4, h5, h6⟩
    exact ⟨k, a, b, h2, h4, h5, h6⟩
  · rintro ⟨k, a, b, h2, h4, h5, h6⟩
    exact ⟨k, a, b, h2, by omega, h4, h5, h6⟩
