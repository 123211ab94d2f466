/-! ===== the fewest rows ===== -/
/-- the least (size, set) for y: its own, or one made from x by adding the row's cues -/
def zLq (S T : Nat → Int) (k : Nat) (b : Int) (P : Nat → Prop) (y : Nat) (s t : Int) : Prop :=
  ((s = S y ∧ t = T y) ∨ ∃ x : Nat, x < 256 ∧ P x ∧ (x ||| k) = y ∧ x ≠ y ∧ S x < 1000000 ∧ s = S x + 1 ∧ t = zlor (T x) b) ∧ ¬ (S y < s ∨ S y = s ∧ T y < t) ∧ ∀ x : Nat, x < 256 → P x → (x ||| k) = y → x ≠ y → S x < 1000000 → ¬ (S x + 1 < s ∨ S x + 1 = s ∧ zlor (T x) b < t)
theorem zLq_0 {S T : Nat → Int} {k : Nat} {b : Int} {P : Nat → Prop} (hP : ∀ x : Nat, x < 256 → ¬ P x) (y : Nat) : zLq S T k b P y (S y) (T y) :=
  ⟨Or.inl ⟨rfl, rfl⟩, by omega, fun x hx px => absurd px (hP x hx)⟩
theorem zLq_P {S T : Nat → Int} {k : Nat} {b : Int} {P P' : Nat → Prop} {y : Nat} {s t : Int} (hP : ∀ x : Nat, x < 256 → (P x ↔ P' x)) (h : zLq S T k b P y s t) : zLq S T k b P' y s t := by
  obtain ⟨h1, h2, h3⟩ := h
  refine ⟨?_, h2, fun x hx px => h3 x hx ((hP x hx).mpr px)⟩
  rcases h1 with h1 | ⟨x, a, c, g⟩
  · exact Or.inl h1
  · exact Or.inr ⟨x, a, (hP x a).mp c, g⟩
theorem zLq_src {S T : Nat → Int} {k : Nat} {b : Int} {P : Nat → Prop} {y : Nat} {s t : Int} (h : zLq S T k b P y s t) (hy : (y ||| k) ≠ y) : s = S y ∧ t = T y := by
  rcases h.1 with h1 | ⟨x, a, c, e, g⟩
  · exact h1
  · refine absurd ?_ hy
    rw [← e, Nat.or_assoc, Nat.or_self]
theorem zLq_go {S T : Nat → Int} {k : Nat} {b : Int} {P P' : Nat → Prop} {m y : Nat} {s t : Int} (hm : m < 256) (hP : ∀ x : Nat, x < 256 → (P' x ↔ P x ∨ x = m)) (h : zLq S T k b P y s t) : (¬ ((m ||| k) = y ∧ m ≠ y ∧ S m < 1000000) → zLq S T k b P' y s t) ∧ ((m ||| k) = y → m ≠ y → S m < 1000000 → ((S m + 1 < s ∨ S m + 1 = s ∧ zlor (T m) b < t) → zLq S T k b P' y (S m + 1) (zlor (T m) b)) ∧ (¬ (S m + 1 < s ∨ S m + 1 = s ∧ zlor (T m) b < t) → zLq S T k b P' y s t)) := by
  obtain ⟨h1, h2, h3⟩ := h
  have old : (s = S y ∧ t = T y) ∨ ∃ x : Nat, x < 256 ∧ P' x ∧ (x ||| k) = y ∧ x ≠ y ∧ S x < 1000000 ∧ s = S x + 1 ∧ t = zlor (T x) b := by
    rcases h1 with h1 | ⟨x, a, c, g⟩
    · exact Or.inl h1
    · exact Or.inr ⟨x, a, (hP x a).mpr (Or.inl c), g⟩
  clear h1
  refine ⟨fun hn => ⟨old, h2, fun x hx px e1 e2 e3 => ?_⟩, fun g1 g2 g3 => ⟨fun hl => ⟨Or.inr ⟨m, hm, (hP m hm).mpr (Or.inr rfl), g1, g2, g3, rfl, rfl⟩, ?_, fun x hx px e1 e2 e3 => ?_⟩, fun hl => ⟨old, h2, fun x hx px e1 e2 e3 => ?_⟩⟩⟩
  · rcases (hP x hx).mp px with p | rfl
    · exact h3 x hx p e1 e2 e3
    · exact absurd ⟨e1, e2, e3⟩ hn
  · clear old hP; omega
  · rcases (hP x hx).mp px with p | rfl
    · have := h3 x hx p e1 e2 e3
      clear old hP h3; omega
    · clear old hP h3; omega
  · rcases (hP x hx).mp px with p | rfl
    · exact h3 x hx p e1 e2 e3
    · exact hl
theorem zLq_u {S T S' T' : Nat → Int} {k : Nat} {b : Int} {P : Nat → Prop} {y : Nat} {s t s' t' : Int} (hy : y < 256) (he : ∀ x : Nat, x < 256 → S x = S' x ∧ T x = T' x) (h : zLq S T k b P y s t) (h' : zLq S' T' k b P y s' t') : s = s' ∧ t = t' := by
  obtain ⟨h1, h2, h3⟩ := h
  obtain ⟨g1, g2, g3⟩ := h'
  obtain ⟨y1, y2⟩ := he y hy
  rw [← y1, ← y2] at g1 g2
  have l1 : ¬ (s' < s ∨ s' = s ∧ t' < t) := by
    rcases g1 with ⟨a, c⟩ | ⟨x, a1, a2, a3, a4, a5, a6, a7⟩
    · rw [a, c]; exact h2
    · obtain ⟨x1, x2⟩ := he x a1
      rw [← x1] at a5 a6
      rw [← x2] at a7
      rw [a6, a7]
      exact h3 x a1 a2 a3 a4 a5
  have l2 : ¬ (s < s' ∨ s = s' ∧ t < t') := by
    rcases h1 with ⟨a, c⟩ | ⟨x, a1, a2, a3, a4, a5, a6, a7⟩
    · rw [a, c]; exact g2
    · obtain ⟨x1, x2⟩ := he x a1
      rw [x1] at a5 a6
      rw [x2] at a7
      rw [a6, a7]
      exact g3 x a1 a2 a3 a4 a5
  clear h1 h2 h3 g1 g2 g3 he
  omega
/-- all sizes are small or none -/
def zSb (n : Nat) (S : Nat → Int) : Prop := ∀ y : Nat, y < 256 → 0 ≤ S y ∧ (S y ≤ n ∨ S y = 1000000)
theorem zLq_b {n : Nat} {S T : Nat → Int} {k : Nat} {b : Int} {P : Nat → Prop} {y : Nat} {s t : Int} (hn : n < 1000) (hy : y < 256) (hS : zSb n S) (h : zLq S T k b P y s t) : 0 ≤ s ∧ (s ≤ n + 1 ∨ s = 1000000) := by
  rcases h.1 with ⟨a, c⟩ | ⟨x, a1, a2, a3, a4, a5, a6, a7⟩
  · have := hS y hy; omega
  · have := hS x a1; omega
def zFw (m0 : Nat) (mk : Nat → Nat) : Nat → (Nat → Int) → (Nat → Int) → Prop
  | 0, S, T => ∀ y : Nat, y < 256 → S y = (if y = m0 then 0 else 1000000) ∧ T y = 0
  | i + 1, S, T => ∃ S0 T0 : Nat → Int, zFw m0 mk i S0 T0 ∧ ∀ y : Nat, y < 256 → zLq S0 T0 (mk i) (zlshl 1 i) (fun _ => True) y (S y) (T y)
theorem zFw_u {m0 : Nat} {mk mk' : Nat → Nat} : ∀ (i : Nat) {S T S' T' : Nat → Int}, (∀ j : Nat, j < i → mk j = mk' j) → zFw m0 mk i S T → zFw m0 mk' i S' T' → ∀ y : Nat, y < 256 → S y = S' y ∧ T y = T' y
  | 0, S, T, S', T', _, h, h' => fun y hy => by
    have a := h y hy
    have a' := h' y hy
    rw [a.1, a.2, a'.1, a'.2]; exact ⟨rfl, rfl⟩
  | i + 1, S, T, S', T', hj, h, h' => fun y hy => by
    obtain ⟨S0, T0, a, c⟩ := h
    obtain ⟨S1, T1, a', c'⟩ := h'
    have e := zFw_u i (fun j hj' => hj j (by omega)) a a'
    have c' := c' y hy
    rw [← hj i (by omega)] at c'
    exact zLq_u hy e (c y hy) c'
theorem zFw_b {m0 : Nat} {mk : Nat → Nat} : ∀ (i : Nat) {S T : Nat → Int}, i < 100 → zFw m0 mk i S T → zSb i S
  | 0, S, T, _, h => fun y hy => by
    have a := (h y hy).1
    rw [a]
    split <;> omega
  | i + 1, S, T, hi, h => fun y hy => by
    obtain ⟨S0, T0, a, c⟩ := h
    have := zLq_b (by omega) hy (zFw_b i (by omega) a) (c y hy)
    omega
/-- the best of the sets that hold seven cues or more -/
def zbst (S T : Nat → Int) : Nat → Int := zfo (fun k b => if 7 ≤ zpc k ∧ S k < 1000000 ∧ (b < 0 ∨ S k < S b.toNat ∨ S k = S b.toNat ∧ T k < T b.toNat) then (k : Int) else b) (-1)
theorem zbst_s (S T : Nat → Int) (k : Nat) : zbst S T (k + 1) = if 7 ≤ zpc k ∧ S k < 1000000 ∧ (zbst S T k < 0 ∨ S k < S (zbst S T k).toNat ∨ S k = S (zbst S T k).toNat ∧ T k < T (zbst S T k).toNat) then (k : Int) else zbst S T k := rfl
theorem zbst_r (S T : Nat → Int) : ∀ k : Nat, zbst S T k = -1 ∨ 0 ≤ zbst S T k ∧ zbst S T k < k ∧ S (zbst S T k).toNat < 1000000
  | 0 => Or.inl rfl
  | k + 1 => by
    have ih := zbst_r S T k
    rw [zbst_s]
    split
    · rename_i h
      refine Or.inr ⟨by omega, by omega, ?_⟩
      rw [Int.toNat_natCast]; exact h.2.1
    · rcases ih with a | ⟨a, c, e⟩
      · exact Or.inl a
      · exact Or.inr ⟨a, by omega, e⟩
/-- what a row of cues covers -/
def zrmk (f : Nat → Int) : Nat → Nat := zfo (fun i m => m ||| 2 ^ (f i).toNat) 0
theorem zrmk_s (f : Nat → Int) (i : Nat) : zrmk f (i + 1) = zrmk f i ||| 2 ^ (f i).toNat := rfl
theorem zrmk_b {f : Nat → Int} : ∀ i : Nat, (∀ j : Nat, j < i → 0 ≤ f j ∧ f j ≤ 7) → zrmk f i < 256
  | 0, _ => show 0 < 256 by decide
  | i + 1, h => by
    rw [zrmk_s]
    exact (zor_m _ (zrmk_b i (fun j hj => h j (by omega))) _ (by have := h i (by omega); omega)).1
theorem zrmk_c {f f' : Nat → Int} : ∀ i : Nat, (∀ j : Nat, j < i → f j = f' j) → zrmk f i = zrmk f' i
  | 0, _ => rfl
  | i + 1, h => by rw [zrmk_s, zrmk_s, zrmk_c i (fun j hj => h j (by omega)), h i (by omega)]
theorem zor_2 : ∀ {a b : Nat}, a < 256 → b < 256 → (a ||| b) < 256 := fun {a b} ha hb => Nat.or_lt_two_pow (n := 8) ha hb
