/-! ===== mannerly: sets of places as bits ===== -/
def zmP (E : Nat → Nat) (s : Nat) : Nat → Nat
  | 0 => 0
  | k + 1 => if s.testBit k = true then zmP E s k ||| E k else zmP E s k
theorem zmP_s (E : Nat → Nat) (s k : Nat) : zmP E s (k + 1) = if s.testBit k = true then zmP E s k ||| E k else zmP E s k := rfl
theorem zmP_t {E : Nat → Nat} {s j : Nat} : ∀ k : Nat, (zmP E s k).testBit j = true ↔ ∃ i : Nat, i < k ∧ s.testBit i = true ∧ (E i).testBit j = true
  | 0 => ⟨fun h => by simp [zmP] at h, fun ⟨i, h, _⟩ => absurd h (Nat.not_lt_zero i)⟩
  | k + 1 => by
    have ih := zmP_t (E := E) (s := s) (j := j) k
    rw [zmP_s]
    by_cases q : s.testBit k = true
    · rw [if_pos q, Nat.testBit_or, Bool.or_eq_true, ih]
      constructor
      · intro h
        rcases h with ⟨i, h1, h2⟩ | h
        · exact ⟨i, by omega, h2⟩
        · exact ⟨k, by omega, q, h⟩
      · intro h
        obtain ⟨i, h1, h2⟩ := h
        by_cases e : i = k
        · rw [e] at h2; exact Or.inr h2.2
        · exact Or.inl ⟨i, by omega, h2⟩
    · rw [if_neg q, ih]
      constructor
      · intro h
        obtain ⟨i, h1, h2⟩ := h
        exact ⟨i, by omega, h2⟩
      · intro h
        obtain ⟨i, h1, h2⟩ := h
        by_cases e : i = k
        · rw [e] at h2; exact absurd h2.1 q
        · exact ⟨i, by omega, h2⟩
theorem zmP_b {E : Nat → Nat} {s N : Nat} : ∀ k : Nat, (∀ i : Nat, i < k → E i < 2 ^ N) → zmP E s k < 2 ^ N
  | 0, _ => Nat.two_pow_pos N
  | k + 1, h => by
    have ih := zmP_b (E := E) (s := s) k (fun i hi => h i (by omega))
    rw [zmP_s]
    by_cases q : s.testBit k = true
    · rw [if_pos q]; exact Nat.or_lt_two_pow ih (h k (by omega))
    · rw [if_neg q]; exact ih
theorem zmP_0 {E : Nat → Nat} : ∀ k : Nat, zmP E 0 k = 0
  | 0 => rfl
  | k + 1 => by rw [zmP_s, Nat.zero_testBit, if_neg (by simp)]; exact zmP_0 k
theorem zmP_l {E : Nat → Nat} {s k : Nat} (h : ∀ i : Nat, k ≤ i → s.testBit i = false) : ∀ m : Nat, zmP E s (k + m) = zmP E s k
  | 0 => rfl
  | m + 1 => by
    rw [← Nat.add_assoc, zmP_s, h (k + m) (by omega), if_neg (by simp)]
    exact zmP_l h m
theorem zmP_c {E E' : Nat → Nat} {s : Nat} : ∀ k : Nat, (∀ i : Nat, i < k → E i = E' i) → zmP E s k = zmP E' s k
  | 0, _ => rfl
  | k + 1, h => by rw [zmP_s, zmP_s, zmP_c k (fun i hi => h i (by omega)), h k (by omega)]
theorem ztb_h {s k : Nat} (h : s < 2 ^ k) (i : Nat) (hi : k ≤ i) : s.testBit i = false := Nat.testBit_lt_two_pow (Nat.lt_of_lt_of_le h (Nat.pow_le_pow_right (by omega) hi))
theorem ztb_d {s i : Nat} (h : s / 2 ^ i = 0) (j : Nat) (hj : i ≤ j) : s.testBit j = false := by
  have : s < 2 ^ i := by
    rcases (Nat.div_eq_zero_iff).mp h with q | q
    · have := Nat.two_pow_pos i; omega
    · exact q
  exact ztb_h this j hj
theorem ztb_m {s i : Nat} : (s / 2 ^ i &&& 1 = 1) ↔ s.testBit i = true := by
  rw [Nat.and_one_is_mod, Nat.testBit_eq_decide_div_mod_eq]
  simp
def zmEl (n : Nat) (wb : Nat → Nat → Bool) (e : Nat → Nat → Nat) (x p : Nat) : Nat := if x < 120 then (if p < n ∧ wb x p = true then 2 ^ (p + 1) else 0) else e (x - 124) p
def zmT (n : Nat) (wb : Nat → Nat → Bool) (e : Nat → Nat → Nat) (x s : Nat) : Nat := zmP (zmEl n wb e x) s (n + 1)
def zmJ (a b : Nat) : Nat := a ||| b
/-- a word of the class: places with it, one further -/
theorem zmT_w {n : Nat} {wb : Nat → Nat → Bool} {e : Nat → Nat → Nat} {x s wp : Nat} (hx : x < 120) (hw : ∀ p : Nat, wp.testBit p = (decide (p < n) && wb x p)) : (s &&& wp) * 2 = zmT n wb e x s := by
  refine Nat.eq_of_testBit_eq (fun j => ?_)
  rw [Bool.eq_iff_iff]
  unfold zmT
  rw [zmP_t, Nat.mul_comm, show 2 * (s &&& wp) = 2 ^ 1 * (s &&& wp) from rfl, Nat.testBit_two_pow_mul, Bool.and_eq_true, Nat.testBit_and, Bool.and_eq_true, hw]
  constructor
  · intro h
    obtain ⟨h1, h2, h3⟩ := h
    have h1 := of_decide_eq_true h1
    rw [Bool.and_eq_true] at h3
    have h4 := of_decide_eq_true h3.1
    refine ⟨j - 1, by omega, h2, ?_⟩
    unfold zmEl
    rw [if_pos hx, if_pos ⟨h4, h3.2⟩, Nat.testBit_two_pow]
    exact decide_eq_true (by omega)
  · intro h
    obtain ⟨i, h1, h2, h3⟩ := h
    unfold zmEl at h3
    rw [if_pos hx] at h3
    by_cases q : i < n ∧ wb x i = true
    · rw [if_pos q, Nat.testBit_two_pow] at h3
      have h3 := of_decide_eq_true h3
      have e1 : j - 1 = i := by omega
      rw [e1, h2, q.2]
      exact ⟨decide_eq_true (by omega), rfl, by rw [decide_eq_true q.1]; rfl⟩
    · rw [if_neg q, Nat.zero_testBit] at h3
      cases h3
