/-! ===== questions that carry a row: order of words, the best of a set ===== -/
def yKl (t : Nat → Int) (w : Nat × (Nat → Nat × Nat)) (x y : Nat) : Prop := ∃ p : Nat, p ≤ (w.2 x).2 ∧ p ≤ (w.2 y).2 ∧ (∀ j : Nat, j < p → t ((w.2 x).1 + j) = t ((w.2 y).1 + j)) ∧ ((p < (w.2 x).2 ∧ p < (w.2 y).2 ∧ t ((w.2 x).1 + p) < t ((w.2 y).1 + p)) ∨ (p = (w.2 x).2 ∧ p < (w.2 y).2))
theorem yKl_tr {t : Nat → Int} {w : Nat × (Nat → Nat × Nat)} {x y z : Nat} (h1 : yKl t w x y) (h2 : yKl t w y z) : yKl t w x z := by
  obtain ⟨p, a1, a2, a3, a4⟩ := h1
  obtain ⟨q, b1, b2, b3, b4⟩ := h2
  rcases Nat.lt_trichotomy p q with h | h | h
  · have e1 := b3 p h
    refine ⟨p, a1, by omega, fun j hj => (a3 j hj).trans (b3 j (by omega)), ?_⟩
    rcases a4 with ⟨c1, c2, c3⟩ | ⟨c1, c2⟩
    · exact Or.inl ⟨c1, by omega, by omega⟩
    · exact Or.inr ⟨c1, by omega⟩
  · subst h
    refine ⟨p, a1, b2, fun j hj => (a3 j hj).trans (b3 j hj), ?_⟩
    rcases a4 with ⟨c1, c2, c3⟩ | ⟨c1, c2⟩
    · rcases b4 with ⟨d1, d2, d3⟩ | ⟨d1, d2⟩
      · exact Or.inl ⟨c1, d2, by omega⟩
      · omega
    · rcases b4 with ⟨d1, d2, d3⟩ | ⟨d1, d2⟩
      · exact Or.inr ⟨c1, d2⟩
      · omega
  · have e1 := a3 q h
    refine ⟨q, by omega, b2, fun j hj => (a3 j (by omega)).trans (b3 j hj), ?_⟩
    rcases b4 with ⟨d1, d2, d3⟩ | ⟨d1, d2⟩
    · exact Or.inl ⟨by omega, d2, by omega⟩
    · omega
theorem yKl_ir {t : Nat → Int} {w : Nat × (Nat → Nat × Nat)} {x : Nat} (h : yKl t w x x) : False := by
  obtain ⟨p, a1, a2, a3, a4⟩ := h
  rcases a4 with ⟨c1, c2, c3⟩ | ⟨c1, c2⟩
  · omega
  · omega
theorem yfd {f g : Nat → Int} : ∀ b : Nat, (∃ p : Nat, p < b ∧ (∀ j : Nat, j < p → f j = g j) ∧ f p ≠ g p) ∨ ∀ j : Nat, j < b → f j = g j
  | 0 => Or.inr (fun j hj => by omega)
  | b + 1 => by
    rcases yfd (f := f) (g := g) b with ⟨p, h1, h2, h3⟩ | h
    · exact Or.inl ⟨p, by omega, h2, h3⟩
    · by_cases q : f b = g b
      · refine Or.inr (fun j hj => ?_)
        by_cases e : j = b
        · rw [e]; exact q
        · exact h j (by omega)
      · exact Or.inl ⟨b, by omega, h, q⟩
theorem yKl_3 {t : Nat → Int} {w : Nat × (Nat → Nat × Nat)} {x y : Nat} (hd : zWdd t w) (hx : x < w.1) (hy : y < w.1) : x = y ∨ yKl t w x y ∨ yKl t w y x := by
  rcases yfd (f := fun j => t ((w.2 x).1 + j)) (g := fun j => t ((w.2 y).1 + j)) (min (w.2 x).2 (w.2 y).2) with ⟨p, h1, h2, h3⟩ | h
  · have h3 : t ((w.2 x).1 + p) ≠ t ((w.2 y).1 + p) := h3
    rcases Int.lt_or_gt_of_ne h3 with q | q
    · exact Or.inr (Or.inl ⟨p, by omega, by omega, h2, Or.inl ⟨by omega, by omega, q⟩⟩)
    · exact Or.inr (Or.inr ⟨p, by omega, by omega, fun j hj => (h2 j hj).symm, Or.inl ⟨by omega, by omega, q⟩⟩)
  · rcases Nat.lt_trichotomy (w.2 x).2 (w.2 y).2 with q | q | q
    · exact Or.inr (Or.inl ⟨(w.2 x).2, by omega, by omega, fun j hj => h j (by omega), Or.inr ⟨rfl, q⟩⟩)
    · left
      rcases Nat.lt_trichotomy x y with r | r | r
      · exact absurd ⟨q, fun j hj => h j (by omega)⟩ (hd y hy x r)
      · exact r
      · exact absurd ⟨q.symm, fun j hj => (h j (by omega)).symm⟩ (hd x hx y r)
    · exact Or.inr (Or.inr ⟨(w.2 y).2, by omega, by omega, fun j hj => (h j (by omega)).symm, Or.inr ⟨rfl, q⟩⟩)
def yRl (t : Nat → Int) (w : Nat × (Nat → Nat × Nat)) : List Nat → List Nat → Prop
  | [], _ => False
  | _ :: _, [] => False
  | a :: x, b :: y => yKl t w a b ∨ (a = b ∧ yRl t w x y)
theorem yRl_tr {t : Nat → Int} {w : Nat × (Nat → Nat × Nat)} : ∀ x y z : List Nat, yRl t w x y → yRl t w y z → yRl t w x z
  | [], _, _, h1, _ => h1.elim
  | _ :: _, [], _, h1, _ => h1.elim
  | _ :: _, _ :: _, [], _, h2 => h2.elim
  | a :: x, b :: y, c :: z, h1, h2 => by
    rcases h1 with p | ⟨p1, p2⟩
    · rcases h2 with q | ⟨q1, q2⟩
      · exact Or.inl (yKl_tr p q)
      · subst q1; exact Or.inl p
    · subst p1
      rcases h2 with q | ⟨q1, q2⟩
      · exact Or.inl q
      · exact Or.inr ⟨q1, yRl_tr x y z p2 q2⟩
theorem yRl_ir {t : Nat → Int} {w : Nat × (Nat → Nat × Nat)} : ∀ x : List Nat, yRl t w x x → False
  | [], h => h
  | a :: x, h => by
    rcases h with p | ⟨p1, p2⟩
    · exact yKl_ir p
    · exact yRl_ir x p2
theorem yRl_3 {t : Nat → Int} {w : Nat × (Nat → Nat × Nat)} (hd : zWdd t w) : ∀ x y : List Nat, (∀ a, a ∈ x → a < w.1) → (∀ a, a ∈ y → a < w.1) → x.length = y.length → x = y ∨ yRl t w x y ∨ yRl t w y x
  | [], [], _, _, _ => Or.inl rfl
  | [], _ :: _, _, _, h => by cases h
  | _ :: _, [], _, _, h => by cases h
  | a :: x, b :: y, h1, h2, h => by
    have hl : x.length = y.length := by
      have h : x.length + 1 = y.length + 1 := h
      omega
    rcases yKl_3 hd (h1 a List.mem_cons_self) (h2 b List.mem_cons_self) with p | p | p
    · subst p
      rcases yRl_3 hd x y (fun c hc => h1 c (List.mem_cons_of_mem _ hc)) (fun c hc => h2 c (List.mem_cons_of_mem _ hc)) hl with q | q | q
      · subst q; exact Or.inl rfl
      · exact Or.inr (Or.inl (Or.inr ⟨rfl, q⟩))
      · exact Or.inr (Or.inr (Or.inr ⟨rfl, q⟩))
    · exact Or.inr (Or.inl (Or.inl p))
    · exact Or.inr (Or.inr (Or.inl p))
theorem yRl_al {t : Nat → Int} {w : Nat × (Nat → Nat × Nat)} : ∀ (a a' b b' : List Nat), yRl t w a a' → yRl t w (a ++ b) (a' ++ b')
  | [], _, _, _, h => h.elim
  | _ :: _, [], _, _, h => h.elim
  | c :: a, c' :: a', b, b', h => by
    rcases h with p | ⟨p1, p2⟩
    · exact Or.inl p
    · exact Or.inr ⟨p1, yRl_al a a' b b' p2⟩
theorem yRl_ar {t : Nat → Int} {w : Nat × (Nat → Nat × Nat)} : ∀ (a b b' : List Nat), yRl t w b b' → yRl t w (a ++ b) (a ++ b')
  | [], _, _, h => h
  | c :: a, b, b', h => Or.inr ⟨rfl, yRl_ar a b b' h⟩
def yBl (t : Nat → Int) (w : Nat × (Nat → Nat × Nat)) (x y : List Nat) : Prop := x.length < y.length ∨ (x.length = y.length ∧ yRl t w x y)
theorem yBl_tr {t : Nat → Int} {w : Nat × (Nat → Nat × Nat)} {x y z : List Nat} (h1 : yBl t w x y) (h2 : yBl t w y z) : yBl t w x z := by
  rcases h1 with p | ⟨p1, p2⟩
  · rcases h2 with q | ⟨q1, q2⟩
    · exact Or.inl (by omega)
    · exact Or.inl (by omega)
  · rcases h2 with q | ⟨q1, q2⟩
    · exact Or.inl (by omega)
    · exact Or.inr ⟨by omega, yRl_tr x y z p2 q2⟩
theorem yBl_ir {t : Nat → Int} {w : Nat × (Nat → Nat × Nat)} {x : List Nat} (h : yBl t w x x) : False := by
  rcases h with p | ⟨p1, p2⟩
  · omega
  · exact yRl_ir x p2
theorem yBl_3 {t : Nat → Int} {w : Nat × (Nat → Nat × Nat)} {x y : List Nat} (hd : zWdd t w) (h1 : ∀ a, a ∈ x → a < w.1) (h2 : ∀ a, a ∈ y → a < w.1) : x = y ∨ yBl t w x y ∨ yBl t w y x := by
  rcases Nat.lt_trichotomy x.length y.length with p | p | p
  · exact Or.inr (Or.inl (Or.inl p))
  · rcases yRl_3 hd x y h1 h2 p with q | q | q
    · exact Or.inl q
    · exact Or.inr (Or.inl (Or.inr ⟨p, q⟩))
    · exact Or.inr (Or.inr (Or.inr ⟨p.symm, q⟩))
  · exact Or.inr (Or.inr (Or.inl p))
/-- the best of a set of rows of words: of the fewest words, then the first in order; none above 60 -/
def yBest (t : Nat → Int) (w : Nat × (Nat → Nat × Nat)) (P : List Nat → Prop) : Option (List Nat) → Prop
  | none => ∀ r : List Nat, P r → 60 < r.length
  | some r => P r ∧ r.length ≤ 60 ∧ (∀ a, a ∈ r → a < w.1) ∧ ∀ r' : List Nat, P r' → r'.length ≤ 60 → r' = r ∨ yBl t w r r'
theorem yBest_u {t : Nat → Int} {w : Nat × (Nat → Nat × Nat)} {P : List Nat → Prop} : ∀ o o' : Option (List Nat), yBest t w P o → yBest t w P o' → o = o'
  | none, none, _, _ => rfl
  | none, some r, h, h' => by
    have a1 := h r h'.1
    have a2 := h'.2.1
    omega
  | some r, none, h, h' => by
    have a1 := h' r h.1
    have a2 := h.2.1
    omega
  | some r, some r', h, h' => by
    rcases h.2.2.2 r' h'.1 h'.2.1 with p | p
    · rw [p]
    · rcases h'.2.2.2 r h.1 h.2.1 with q | q
      · rw [q]
      · exact (yBl_ir (yBl_tr p q)).elim
theorem yBest_c {t : Nat → Int} {w : Nat × (Nat → Nat × Nat)} {P R : List Nat → Prop} (hp : ∀ r, P r ↔ R r) {o : Option (List Nat)} (h : yBest t w P o) : yBest t w R o := by
  have e : P = R := by funext r; exact propext (hp r)
  rw [← e]; exact h
theorem yBest_0 {t : Nat → Int} {w : Nat × (Nat → Nat × Nat)} : yBest t w (fun _ => False) none := fun _ h => h.elim
def yCc (P R : List Nat → Prop) : List Nat → Prop := fun r => ∃ x y : List Nat, P x ∧ R y ∧ r = x ++ y
def yCat : Option (List Nat) → Option (List Nat) → Option (List Nat)
  | none, _ => none
  | some _, none => none
  | some a, some b => if a.length + b.length ≤ 60 then some (a ++ b) else none
theorem yBest_cat {t : Nat → Int} {w : Nat × (Nat → Nat × Nat)} {P R : List Nat → Prop} : ∀ a b : Option (List Nat), yBest t w P a → yBest t w R b → yBest t w (yCc P R) (yCat a b)
  | none, b, h1, _ => by
    rintro r ⟨x, y, hx, hy, e⟩
    have := h1 x hx
    rw [e, List.length_append]; omega
  | some a, none, _, h2 => by
    rintro r ⟨x, y, hx, hy, e⟩
    have := h2 y hy
    rw [e, List.length_append]; omega
  | some a, some b, h1, h2 => by
    obtain ⟨a1, a2, a3, a4⟩ := h1
    obtain ⟨b1, b2, b3, b4⟩ := h2
    have key : ∀ x y : List Nat, P x → R y → x.length + y.length ≤ 60 → x ++ y = a ++ b ∨ yBl t w (a ++ b) (x ++ y) := by
      intro x y hx hy hl
      rcases a4 x hx (by omega) with p | p
      · subst p
        rcases b4 y hy (by omega) with q | q
        · subst q; exact Or.inl rfl
        · right
          rcases q with q | ⟨q1, q2⟩
          · left; rw [List.length_append, List.length_append]; omega
          · right; exact ⟨by rw [List.length_append, List.length_append]; omega, yRl_ar x b y q2⟩
      · right
        have hb : b.length ≤ y.length := by
          rcases b4 y hy (by omega) with q | q
          · rw [q]; exact Nat.le_refl _
          · rcases q with q | ⟨q1, _⟩ <;> omega
        rcases p with p | ⟨p1, p2⟩
        · left; rw [List.length_append, List.length_append]; omega
        · by_cases e : b.length = y.length
          · right; exact ⟨by rw [List.length_append, List.length_append]; omega, yRl_al a x b y p2⟩
          · left; rw [List.length_append, List.length_append]; omega
    show yBest t w (yCc P R) (if a.length + b.length ≤ 60 then some (a ++ b) else none)
    by_cases q : a.length + b.length ≤ 60
    · rw [if_pos q]
      refine ⟨⟨a, b, a1, b1, rfl⟩, by rw [List.length_append]; exact q, fun c hc => ?_, fun r hr hl => ?_⟩
      · rcases List.mem_append.mp hc with r | r
        · exact a3 c r
        · exact b3 c r
      · obtain ⟨x, y, hx, hy, e⟩ := hr
        subst e
        exact key x y hx hy (by rw [List.length_append] at hl; exact hl)
    · rw [if_neg q]
      rintro r ⟨x, y, hx, hy, e⟩
      rw [e, List.length_append]
      apply Classical.byContradiction
      intro hn
      have ha : a.length ≤ x.length := by
        rcases a4 x hx (by omega) with p | p
        · rw [p]; exact Nat.le_refl _
        · rcases p with p | ⟨p1, _⟩ <;> omega
      have hb : b.length ≤ y.length := by
        rcases b4 y hy (by omega) with p | p
        · rw [p]; exact Nat.le_refl _
        · rcases p with p | ⟨p1, _⟩ <;> omega
      omega
/-- is the first better than the second? -/
def yBet (t : Nat → Int) (w : Nat × (Nat → Nat × Nat)) : Option (List Nat) → Option (List Nat) → Prop
  | none, _ => False
  | some _, none => True
  | some x, some y => yBl t w x y
def yOr (P R : List Nat → Prop) : List Nat → Prop := fun r => P r ∨ R r
theorem yBest_or1 {t : Nat → Int} {w : Nat × (Nat → Nat × Nat)} {P R : List Nat → Prop} : ∀ i c : Option (List Nat), yBest t w P i → yBest t w R c → yBet t w c i → yBest t w (yOr P R) c
  | _, none, _, _, h => h.elim
  | none, some c, h1, h2, _ => ⟨Or.inr h2.1, h2.2.1, h2.2.2.1, fun r hr hl => by
      rcases hr with q | q
      · have := h1 r q; omega
      · exact h2.2.2.2 r q hl⟩
  | some i, some c, h1, h2, h => ⟨Or.inr h2.1, h2.2.1, h2.2.2.1, fun r hr hl => by
      rcases hr with q | q
      · rcases h1.2.2.2 r q hl with p | p
        · right; rw [p]; exact h
        · right; exact yBl_tr h p
      · exact h2.2.2.2 r q hl⟩
theorem yBest_or2 {t : Nat → Int} {w : Nat × (Nat → Nat × Nat)} (hd : zWdd t w) {P R : List Nat → Prop} : ∀ i c : Option (List Nat), yBest t w P i → yBest t w R c → ¬ yBet t w c i → yBest t w (yOr P R) i
  | none, none, h1, h2, _ => fun r hr => by
    rcases hr with q | q
    · exact h1 r q
    · exact h2 r q
  | none, some c, _, _, h => absurd trivial h
  | some i, none, h1, h2, _ => ⟨Or.inl h1.1, h1.2.1, h1.2.2.1, fun r hr hl => by
      rcases hr with q | q
      · exact h1.2.2.2 r q hl
      · have := h2 r q; omega⟩
  | some i, some c, h1, h2, h => ⟨Or.inl h1.1, h1.2.1, h1.2.2.1, fun r hr hl => by
      rcases hr with q | q
      · exact h1.2.2.2 r q hl
      · have hic : i = c ∨ yBl t w i c := by
          rcases yBl_3 hd h1.2.2.1 h2.2.2.1 with p | p | p
          · exact Or.inl p
          · exact Or.inr p
          · exact absurd p h
        rcases h2.2.2.2 r q hl with p | p
        · rcases hic with e | e
          · left; rw [p, e]
          · right; rw [p]; exact e
        · rcases hic with e | e
          · right; rw [e]; exact p
          · right; exact yBl_tr e p⟩
