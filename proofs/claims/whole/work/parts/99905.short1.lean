/-! ===== the least rows ===== -/
/-- t comes before u: heavier, or as heavy and the lesser number -/
def zbe (w : Nat → Int) (t u : Nat) : Prop := w u < w t ∨ (w u = w t ∧ t < u)
theorem zbe_a {w : Nat → Int} {t u : Nat} (h : zbe w t u) (h' : zbe w u t) : False := by
  unfold zbe at h h'
  omega
/-- o has the m things of P in their order -/
def zOr (P : Nat → Prop) (w : Nat → Int) (m : Nat) (o : Nat → Nat) : Prop := (∀ r : Nat, r < m → P (o r)) ∧ (∀ t : Nat, P t → ∃ r : Nat, r < m ∧ o r = t) ∧ ∀ r r' : Nat, r < r' → r' < m → zbe w (o r) (o r')
theorem zOr_i {P : Nat → Prop} {w : Nat → Int} {m : Nat} {o : Nat → Nat} (h : zOr P w m o) {i j : Nat} (hi : i < m) (hj : j < m) (e : o i = o j) : i = j := by
  rcases Nat.lt_trichotomy i j with q | q | q
  · have := h.2.2 i j q hj
    rw [e] at this
    exact (zbe_a this this).elim
  · exact q
  · have := h.2.2 j i q hi
    rw [e] at this
    exact (zbe_a this this).elim
theorem zOr_u {P : Nat → Prop} {w : Nat → Int} {m m' : Nat} {o o' : Nat → Nat} (h : zOr P w m o) (h' : zOr P w m' o') : ∀ r : Nat, r < m → r < m' → o r = o' r := by
  intro r
  induction r using Nat.strongRecOn with
  | ind r ih =>
    intro h1 h2
    obtain ⟨j, hj, ej⟩ := h'.2.1 (o r) (h.1 r h1)
    obtain ⟨i, hi, ei⟩ := h.2.1 (o' r) (h'.1 r h2)
    have gj : r ≤ j := by
      apply Classical.byContradiction
      intro q
      have e1 := ih j (by omega) (by omega) hj
      rw [ej] at e1
      have := zOr_i h (by omega) h1 e1
      omega
    have gi : r ≤ i := by
      apply Classical.byContradiction
      intro q
      have e1 := ih i (by omega) hi (by omega)
      rw [ei] at e1
      have := zOr_i h' h2 (by omega) e1
      omega
    by_cases qj : j = r
    · subst qj; exact ej.symm
    · by_cases qi : i = r
      · subst qi; exact ei
      · have b1 := h'.2.2 r j (by omega) hj
        have b2 := h.2.2 r i (by omega) hi
        rw [ej] at b1
        rw [ei] at b2
        exact (zbe_a b1 b2).elim
theorem zOr_m {P : Nat → Prop} {w : Nat → Int} {m m' : Nat} {o o' : Nat → Nat} (h : zOr P w m o) (h' : zOr P w m' o') : ¬ m < m' := by
  intro q
  obtain ⟨i, hi, ei⟩ := h.2.1 (o' m) (h'.1 m q)
  have e := zOr_u h h' i hi (by omega)
  rw [ei] at e
  have := zOr_i h' (by omega) q e.symm
  omega
theorem zOr_e {P : Nat → Prop} {w : Nat → Int} {m m' : Nat} {o o' : Nat → Nat} (h : zOr P w m o) (h' : zOr P w m' o') : m = m' := by
  have a := zOr_m h h'
  have b := zOr_m h' h
  omega
/-- digits of a shape, and their sums -/
def zDg (s d : Nat) : Nat := s / 8 ^ d % 8
def zCu (s : Nat) : Nat → Nat
  | 0 => 0
  | d + 1 => zCu s d + zDg s d
theorem zCu_s (s d : Nat) : zCu s (d + 1) = zCu s d + zDg s d := rfl
theorem zDg_b (s d : Nat) : zDg s d < 8 := Nat.mod_lt _ (by decide)
theorem zCu_5 {s : Nat} (h : s < 32768) : zCu s 5 = ztot s := by
  show 0 + s / 8 ^ 0 % 8 + s / 8 ^ 1 % 8 + s / 8 ^ 2 % 8 + s / 8 ^ 3 % 8 + s / 8 ^ 4 % 8 = ztot s
  unfold ztot
  simp only [Nat.reducePow]
  omega
theorem zCu_m {s : Nat} {a : Nat} : ∀ k : Nat, zCu s a ≤ zCu s (a + k)
  | 0 => Nat.le_refl _
  | k + 1 => by have := zCu_m (s := s) (a := a) k; rw [← Nat.add_assoc, zCu_s]; omega
theorem zCu_le {s a b : Nat} (h : a ≤ b) : zCu s a ≤ zCu s b := by
  have := zCu_m (s := s) (a := a) (b - a)
  rw [show a + (b - a) = b by omega] at this
  exact this
/-- how long the r-th row is -/
def zLn (s r : Nat) : Nat := if r < zCu s 1 then 1 else if r < zCu s 2 then 2 else if r < zCu s 3 then 3 else if r < zCu s 4 then 4 else 5
theorem zLn_b (s r : Nat) : 1 ≤ zLn s r ∧ zLn s r ≤ 5 := by
  unfold zLn
  repeat' split
  all_goals omega
theorem zLn_e {s r d : Nat} (hd : d < 5) (h1 : zCu s d ≤ r) (h2 : r < zCu s (d + 1)) : zLn s r = d + 1 := by
  have a1 : zCu s 1 ≤ zCu s 2 := zCu_le (by omega)
  have a2 : zCu s 2 ≤ zCu s 3 := zCu_le (by omega)
  have a3 : zCu s 3 ≤ zCu s 4 := zCu_le (by omega)
  have a4 : zCu s 4 ≤ zCu s 5 := zCu_le (by omega)
  have : d = 0 ∨ d = 1 ∨ d = 2 ∨ d = 3 ∨ d = 4 := by omega
  unfold zLn
  rcases this with rfl | rfl | rfl | rfl | rfl
  · rw [if_pos (by exact h2)]
  · rw [if_neg (by omega), if_pos (by exact h2)]
  · rw [if_neg (by omega), if_neg (by omega), if_pos (by exact h2)]
  · rw [if_neg (by omega), if_neg (by omega), if_neg (by omega), if_pos (by exact h2)]
  · rw [if_neg (by omega), if_neg (by omega), if_neg (by omega), if_neg (by omega)]
/-- what a shape costs -/
def zCs (s : Nat) (w : Nat → Int) (o : Nat → Nat) (m : Nat) : Int := zsm (fun r => w (o r) * (zLn s r : Int)) m
theorem zCs_s (s : Nat) (w : Nat → Int) (o : Nat → Nat) (m : Nat) : zCs s w o (m + 1) = zCs s w o m + w (o m) * (zLn s m : Int) := rfl
theorem zCs_b {s : Nat} {w : Nat → Int} {o : Nat → Nat} {B : Int} (m : Nat) (h : ∀ r : Nat, r < m → 0 ≤ w (o r) ∧ w (o r) ≤ B) : 0 ≤ zCs s w o m ∧ zCs s w o m ≤ 5 * B * m := by
  refine zsm_b m (fun t ht => ?_)
  have hl := zLn_b s t
  have hw := h t ht
  have h1 : 0 ≤ w (o t) * (zLn s t : Int) := Int.mul_nonneg hw.1 (by omega)
  have h2 : w (o t) * (zLn s t : Int) ≤ w (o t) * 5 := Int.mul_le_mul_of_nonneg_left (by omega) hw.1
  omega
theorem zCs_c {s : Nat} {w w' : Nat → Int} {o o' : Nat → Nat} (m : Nat) (h : ∀ r : Nat, r < m → w (o r) = w' (o' r)) : zCs s w o m = zCs s w' o' m := zsm_c m (fun r hr => by rw [h r hr])
/-- rows of lengths: the first difference among those that P names -/
def zlx (P : Nat → Prop) (n : Nat) (T T' : Nat → Int) : Prop := ∃ t : Nat, t < n ∧ P t ∧ (∀ u : Nat, u < t → P u → T u = T' u) ∧ T t < T' t
theorem zlx_t {P : Nat → Prop} {n : Nat} {A B C : Nat → Int} (h : zlx P n A B) (h' : zlx P n B C) : zlx P n A C := by
  obtain ⟨t, h1, h2, h3, h4⟩ := h
  obtain ⟨u, k1, k2, k3, k4⟩ := h'
  rcases Nat.lt_trichotomy t u with q | q | q
  · exact ⟨t, h1, h2, fun v hv hP => (h3 v hv hP).trans (k3 v (by omega) hP), by rw [← k3 t q h2]; exact h4⟩
  · subst q
    exact ⟨t, h1, h2, fun v hv hP => (h3 v hv hP).trans (k3 v hv hP), by omega⟩
  · exact ⟨u, k1, k2, fun v hv hP => (h3 v (by omega) hP).trans (k3 v hv hP), by rw [h3 u q k2]; exact k4⟩
theorem zlx_3 {P : Nat → Prop} {A B : Nat → Int} : ∀ n : Nat, zlx P n A B ∨ zlx P n B A ∨ ∀ t : Nat, t < n → P t → A t = B t
  | 0 => Or.inr (Or.inr (fun t ht => by omega))
  | n + 1 => by
    rcases zlx_3 (P := P) (A := A) (B := B) n with ⟨t, h⟩ | ⟨t, h⟩ | h
    · exact Or.inl ⟨t, by omega, h.2⟩
    · exact Or.inr (Or.inl ⟨t, by omega, h.2⟩)
    · by_cases hP : P n
      · rcases Int.lt_trichotomy (A n) (B n) with q | q | q
        · exact Or.inl ⟨n, by omega, hP, h, q⟩
        · refine Or.inr (Or.inr (fun t ht hPt => ?_))
          by_cases e : t = n
          · rw [e]; exact q
          · exact h t (by omega) hPt
        · exact Or.inr (Or.inl ⟨n, by omega, hP, fun u hu hPu => (h u hu hPu).symm, q⟩)
      · refine Or.inr (Or.inr (fun t ht hPt => ?_))
        by_cases e : t = n
        · subst e; exact absurd hPt hP
        · exact h t (by omega) hPt
theorem zlx_c {P : Nat → Prop} {n : Nat} {A B A' B' : Nat → Int} (hA : ∀ t : Nat, t < n → P t → A t = A' t) (hB : ∀ t : Nat, t < n → P t → B t = B' t) : zlx P n A B ↔ zlx P n A' B' := by
  constructor
  · rintro ⟨t, h1, h2, h3, h4⟩
    exact ⟨t, h1, h2, fun u hu hP => by rw [← hA u (by omega) hP, ← hB u (by omega) hP]; exact h3 u hu hP, by rw [← hA t h1 h2, ← hB t h1 h2]; exact h4⟩
  · rintro ⟨t, h1, h2, h3, h4⟩
    exact ⟨t, h1, h2, fun u hu hP => by rw [hA u (by omega) hP, hB u (by omega) hP]; exact h3 u hu hP, by rw [hA t h1 h2, hB t h1 h2]; exact h4⟩
/-- the best of the shapes in E: what it costs and its lengths -/
def zBs (P : Nat → Prop) (n : Nat) (E : Nat → Prop) (c : Nat → Int) (T : Nat → Nat → Int) (v : Int) (B : Nat → Int) : Prop := (v = -1 ∧ ∀ s : Nat, ¬ E s) ∨ ∃ s : Nat, E s ∧ v = c s ∧ (∀ t : Nat, t < n → P t → B t = T s t) ∧ ∀ s' : Nat, E s' → c s < c s' ∨ (c s = c s' ∧ ¬ zlx P n (T s') (T s))
theorem zBs_c {P : Nat → Prop} {n : Nat} {E E' : Nat → Prop} {c : Nat → Int} {T : Nat → Nat → Int} {v : Int} {B B' : Nat → Int} (h : zBs P n E c T v B) (hE : ∀ s : Nat, E s ↔ E' s) (hB : ∀ t : Nat, t < n → P t → B' t = B t) : zBs P n E' c T v B' := by
  have e : E = E' := funext (fun s => propext (hE s))
  subst e
  rcases h with h | ⟨s, h1, h2, h3, h4⟩
  · exact Or.inl h
  · exact Or.inr ⟨s, h1, h2, fun t ht hP => (hB t ht hP).trans (h3 t ht hP), h4⟩
theorem zBs_f {P : Nat → Prop} {n : Nat} {E : Nat → Prop} {c : Nat → Int} {T : Nat → Nat → Int} {v : Int} {B : Nat → Int} (hc : ∀ s : Nat, E s → 0 ≤ c s) (h : zBs P n E c T v B) : -1 ≤ v ∧ (v < 0 → v = -1 ∧ ∀ s : Nat, ¬ E s) := by
  rcases h with h | ⟨s, h1, h2, _⟩
  · exact ⟨by omega, fun _ => h⟩
  · have := hc s h1
    exact ⟨by omega, fun q => by omega⟩
/-- one shape more -/
theorem zBs_go {P : Nat → Prop} {n : Nat} {E : Nat → Prop} {c : Nat → Int} {T : Nat → Nat → Int} {v : Int} {B : Nat → Int} {s : Nat} (hc : ∀ s : Nat, E s → 0 ≤ c s) (h : zBs P n E c T v B) (hb : v < 0 ∨ c s < v ∨ (c s = v ∧ zlx P n (T s) B)) : zBs P n (fun x => E x ∨ x = s) c T (c s) (T s) := by
  refine Or.inr ⟨s, Or.inr rfl, rfl, fun _ _ _ => rfl, fun s' hs' => ?_⟩
  rcases hs' with hs' | rfl
  · rcases h with h | ⟨s0, h1, h2, h3, h4⟩
    · exact absurd hs' (h.2 s')
    · have c0 := hc s0 h1
      have hq := h4 s' hs'
      rcases hb with hb | hb | ⟨hb, hl⟩
      · omega
      · exact Or.inl (by rcases hq with hq | hq <;> omega)
      · rcases hq with hq | ⟨hq1, hq2⟩
        · exact Or.inl (by omega)
        · refine Or.inr ⟨by omega, fun hx => hq2 ?_⟩
          exact zlx_t hx ((zlx_c (fun _ _ _ => rfl) h3).mp hl)
  · refine Or.inr ⟨rfl, fun ⟨t, _, _, _, h4⟩ => by omega⟩
theorem zBs_no {P : Nat → Prop} {n : Nat} {E : Nat → Prop} {c : Nat → Int} {T : Nat → Nat → Int} {v : Int} {B : Nat → Int} {s : Nat} (hc : ∀ s : Nat, E s → 0 ≤ c s) (h : zBs P n E c T v B) (h0 : 0 ≤ v) (hb : v < c s ∨ (c s = v ∧ ¬ zlx P n (T s) B)) : zBs P n (fun x => E x ∨ x = s) c T v B := by
  rcases h with h | ⟨s0, h1, h2, h3, h4⟩
  · omega
  · refine Or.inr ⟨s0, Or.inl h1, h2, h3, fun s' hs' => ?_⟩
    rcases hs' with hs' | rfl
    · exact h4 s' hs'
    · rcases hb with hb | ⟨hb, hl⟩
      · exact Or.inl (by omega)
      · exact Or.inr ⟨by omega, fun hx => hl ((zlx_c (fun _ _ _ => rfl) h3).mpr hx)⟩
/-- the best is one -/
theorem zBs_u {P P' : Nat → Prop} {n n' : Nat} {E : Nat → Prop} {c : Nat → Int} {T T' : Nat → Nat → Int} {v v' : Int} {B B' : Nat → Int} (h : zBs P n E c T v B) (h' : zBs P' n' E c T' v' B') : v = v' := by
  rcases h with h | ⟨s, h1, h2, h3, h4⟩
  · rcases h' with h' | ⟨s', k1, _⟩
    · omega
    · exact absurd k1 (h.2 s')
  · rcases h' with h' | ⟨s', k1, k2, k3, k4⟩
    · exact absurd h1 (h'.2 s)
    · have a := h4 s' k1
      have b := k4 s h1
      omega
theorem zBs_uB {P : Nat → Prop} {n : Nat} {E : Nat → Prop} {c : Nat → Int} {T : Nat → Nat → Int} {v v' : Int} {B B' : Nat → Int} (h : zBs P n E c T v B) (h' : zBs P n E c T v' B') (h0 : v ≠ -1) : ∀ t : Nat, t < n → P t → B t = B' t := by
  have hv := zBs_u h h'
  rcases h with h | ⟨s, h1, h2, h3, h4⟩
  · exact absurd h.1 h0
  · rcases h' with h' | ⟨s', k1, k2, k3, k4⟩
    · exact absurd h1 (h'.2 s)
    · have a := h4 s' k1
      have b := k4 s h1
      intro t ht hP
      rw [h3 t ht hP, k3 t ht hP]
      rcases zlx_3 (P := P) (A := T s) (B := T s') n with q | q | q
      · rcases b with b | b
        · omega
        · exact absurd q b.2
      · rcases a with a | a
        · omega
        · exact absurd q a.2
      · exact q t ht hP
