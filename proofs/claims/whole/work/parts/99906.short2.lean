/-- how many of the first n bits are set -/
def zpk (p : Nat) : Nat → Nat
  | 0 => 0
  | n + 1 => zpk p n + p / 2 ^ n % 2
theorem zpk_s (p n : Nat) : zpk p (n + 1) = zpk p n + p / 2 ^ n % 2 := rfl
theorem zdf_e : ∀ p : Nat, p < 128 → ∀ q : Nat, q < 128 → zand (p : Int) (zxor (q : Int) (-1)) = ((p &&& (127 ^^^ q) : Nat) : Int) := by decide +kernel
theorem zdf_b : ∀ p : Nat, p < 128 → ∀ q : Nat, q < 128 → p &&& (127 ^^^ q) < 128 ∧ ∀ t : Nat, t < 7 → ((p &&& (127 ^^^ q)) / 2 ^ t % 2 = 1 ↔ p / 2 ^ t % 2 = 1 ∧ ¬ q / 2 ^ t % 2 = 1) := by decide +kernel
theorem zq_or : ∀ q : Nat, q < 128 → ∀ c : Nat, c < 7 → q ||| 2 ^ c < 128 ∧ ∀ t : Nat, t < 7 → ((q ||| 2 ^ c) / 2 ^ t % 2 = 1 ↔ q / 2 ^ t % 2 = 1 ∨ t = c) := by decide +kernel
theorem zq_0 : ∀ q : Nat, q < 128 → (q = 0 ↔ ∀ t : Nat, t < 7 → ¬ q / 2 ^ t % 2 = 1) := by decide +kernel
theorem zpk_7 (p : Nat) : ∀ n : Nat, zpk p n ≤ n
  | 0 => Nat.le_refl _
  | n + 1 => by have := zpk_7 p n; rw [zpk_s]; omega
