/-! ===== spies: sums over books ===== -/
theorem zsm_z : ∀ n : Nat, zsm (fun _ => 0) n = 0
  | 0 => rfl
  | n + 1 => by rw [zsm_s, zsm_z n]; rfl
theorem zsm_swap {f : Nat → Nat → Int} : ∀ n m : Nat, zsm (fun a => zsm (fun b => f a b) m) n = zsm (fun b => zsm (fun a => f a b) n) m
  | 0, m => (zsm_z m).symm
  | n + 1, m => by rw [zsm_s, zsm_swap n m, ← zsm_add]; rfl
theorem zsm_mulr {f : Nat → Int} {x : Int} : ∀ n : Nat, zsm (fun t => x * f t) n = x * zsm f n
  | 0 => by simp [zsm]
  | n + 1 => by rw [zsm_s, zsm_s, zsm_mulr n, Int.mul_add]
theorem zsm_le {f g : Nat → Int} : ∀ n : Nat, (∀ t : Nat, t < n → f t ≤ g t) → zsm f n ≤ zsm g n
  | 0, _ => Int.le_refl 0
  | n + 1, h => by
    have := zsm_le n (fun t ht => h t (by omega))
    have := h n (by omega)
    rw [zsm_s, zsm_s]
    omega
theorem zsm_nn {f : Nat → Int} (n : Nat) (h : ∀ t : Nat, t < n → 0 ≤ f t) : 0 ≤ zsm f n := by
  have := zsm_le (f := fun _ => 0) n h
  rw [zsm_z] at this
  exact this
theorem zsm_sh1 {g : Nat → Int} {r : Nat} : ∀ n : Nat, zsm (fun w => if r ≤ w then g w else 0) n = zsm (fun w => g (w + r)) (n - r)
  | 0 => by rw [Nat.zero_sub]; rfl
  | n + 1 => by
    rw [zsm_s, zsm_sh1 n]
    by_cases h : r ≤ n
    · rw [if_pos h, show n + 1 - r = n - r + 1 by omega, zsm_s, show n - r + r = n by omega]
    · rw [if_neg h, show n + 1 - r = 0 by omega, show n - r = 0 by omega]
      rfl
theorem zsm_sh2 {g : Nat → Int} {r k : Nat} : ∀ n : Nat, zsm (fun w => if w + r < k then g w else 0) n = zsm g (if n ≤ k - r then n else k - r)
  | 0 => by rw [if_pos (by omega)]; rfl
  | n + 1 => by
    rw [zsm_s, zsm_sh2 n]
    by_cases h : n + r < k
    · rw [if_pos h, if_pos (by omega), if_pos (by omega), zsm_s]
    · rw [if_neg h]
      by_cases h2 : n ≤ k - r
      · rw [if_pos h2]
        by_cases h3 : n + 1 ≤ k - r
        · omega
        · rw [if_neg h3, show k - r = n by omega, Int.add_zero]
      · rw [if_neg h2, if_neg (by omega), Int.add_zero]
theorem zsm_pt2 {f g : Nat → Int} {p : Nat} {x : Int} : ∀ n : Nat, p < n → (∀ t : Nat, t < n → t ≠ p → g t = f t) → g p = f p + x → zsm g n = zsm f n + x := fun n hp h1 h2 => by
  have e := zsm_pt (f := f) (p := p) (x := x) n
  rw [if_pos hp] at e
  rw [← e]
  refine zsm_c n (fun t ht => ?_)
  by_cases q : t = p
  · rw [if_pos q, q, h2]
  · rw [if_neg q, h1 t ht q]
/-- bits of sets of digits -/
def zbt1 (m k : Nat) : Bool := m / 2 ^ k % 2 == 1
theorem zor_m : ∀ m : Nat, m < 256 → ∀ k : Nat, k < 8 → (m ||| 2 ^ k) < 256 ∧ m ≤ (m ||| 2 ^ k) ∧ (zbt1 m k = true ↔ (m ||| 2 ^ k) = m) ∧ (zbt1 m k = false → zpc (m ||| 2 ^ k) = zpc m + 1) := by decide +kernel
theorem zor_b : ∀ m : Nat, m < 256 → ∀ k : Nat, k < 8 → ∀ j : Nat, j < 8 → zbt1 (m ||| 2 ^ k) j = (zbt1 m j || j == k) := by decide +kernel
theorem zor1 {m k : Nat} (hm : m < 256) (hk : k < 8) : zor (m : Int) (zshl 1 (k : Int)) = ((m ||| 2 ^ k : Nat) : Int) := by
  have h2 : (2 : Nat) ^ k ≤ 2 ^ 7 := Nat.pow_le_pow_right (by decide) (by omega)
  have e : zshl 1 (k : Int) = ((2 ^ k : Nat) : Int) := by
    have := zshl_n (a := 1) (k := k) (by omega) (by omega)
    rw [Nat.one_mul] at this
    exact this
  rw [e, zor_n (by omega) (by omega)]
theorem zpc_le : ∀ m : Nat, m < 256 → zpc m ≤ 8 ∧ (m ≠ 255 → zpc m ≤ 7) ∧ (zpc m = 8 → m = 255) ∧ (zpc m = 0 → m = 0) := by decide +kernel
def zRw (A : Nat → Int) (U : Nat → Nat → Int) (n x : Nat) : Int := zsm (fun w => A (7 * x + w) * U x w) n
def zGp (A : Nat → Int) (U : Nat → Nat → Int) (n m : Nat) : Int := zsm (fun x => if m ≤ x then zRw A U n x else 0) 256
/-- the books of a set of digits told on by one digit: the entries at 7 nx + r on, w of them -/
def zfd (A : Nat → Int) (m nx r w : Nat) (j : Nat) : Int := if 7 * nx + r ≤ j ∧ j < 7 * nx + r + w then A j + A (7 * m + (j - (7 * nx + r))) else A j
theorem zfd_r {A : Nat → Int} {U : Nat → Nat → Int} {m nx r n : Nat} (hn : n ≤ 7) : zRw (zfd A m nx r (n - r)) U n nx = zRw A U n nx + zsm (fun w => if w + r < n then A (7 * m + w) * U nx (w + r) else 0) n := by
  have e : zRw (zfd A m nx r (n - r)) U n nx = zsm (fun w => A (7 * nx + w) * U nx w + (if r ≤ w then A (7 * m + (w - r)) * U nx w else 0)) n := by
    refine zsm_c n (fun w hw => ?_)
    unfold zfd
    by_cases h : r ≤ w
    · rw [if_pos (by omega), if_pos h, show 7 * nx + w - (7 * nx + r) = w - r by omega, Int.add_mul]
    · rw [if_neg (by omega), if_neg h, Int.add_zero]
  rw [e, zsm_add, zsm_sh1 n, zsm_sh2 n]
  congr 1
  by_cases h : r = 0
  · subst h
    rw [if_pos (by omega)]
    exact zsm_c _ (fun w hw => by rw [Nat.add_zero, Nat.sub_zero])
  · by_cases h2 : n ≤ n - r
    · have : n = 0 := by omega
      subst this
      rw [if_pos h2, Nat.zero_sub]
      rfl
    · rw [if_neg h2]
      exact zsm_c _ (fun w hw => by rw [Nat.add_sub_cancel])
theorem zfd_x {A : Nat → Int} {U : Nat → Nat → Int} {m nx r n x : Nat} (hn : n ≤ 7) (hx : x ≠ nx) : zRw (zfd A m nx r (n - r)) U n x = zRw A U n x := by
  refine zsm_c n (fun w hw => ?_)
  unfold zfd
  rw [if_neg (by omega)]
theorem zfd_g {A : Nat → Int} {U : Nat → Nat → Int} {m nx r n : Nat} (hn : n ≤ 7) (hnx : nx < 256) (hm : m < nx) : zGp (zfd A m nx r (n - r)) U n (m + 1) = zGp A U n (m + 1) + zsm (fun w => if w + r < n then A (7 * m + w) * U nx (w + r) else 0) n := by
  refine zsm_pt2 (p := nx) 256 hnx (fun t ht hne => ?_) ?_
  · rw [zfd_x hn hne]
  · rw [if_pos (by omega), if_pos (by omega), zfd_r hn]
def zfg (A : Nat → Int) (W : Nat → Nat) (n m d : Nat) : Nat → Int := if zbt1 m d = true then A else zfd A m (m ||| 2 ^ d) (W d) (n - W d)
def zfgs (A : Nat → Int) (W : Nat → Nat) (n m : Nat) (k : Nat) : Nat → Int := zfo (fun d B => zfg B W n m d) A k
theorem zfgs_s (A : Nat → Int) (W : Nat → Nat) (n m k : Nat) : zfgs A W n m (k + 1) = zfg (zfgs A W n m k) W n m k := rfl
theorem zfgs_row {A : Nat → Int} {W : Nat → Nat} {n m : Nat} (hn : n ≤ 7) (hm : m < 256) : ∀ k : Nat, k ≤ 8 → ∀ w : Nat, w < 7 → zfgs A W n m k (7 * m + w) = A (7 * m + w)
  | 0, _, _, _ => rfl
  | k + 1, hk, w, hw => by
    rw [zfgs_s]
    unfold zfg
    have ih := zfgs_row (A := A) (W := W) hn hm k (by omega) w hw
    split
    · exact ih
    · rename_i hb
      have := zor_m m hm k (by omega)
      have hne : (m ||| 2 ^ k) ≠ m := fun e => hb (this.2.2.1.mpr e)
      unfold zfd
      rw [if_neg (by omega)]
      exact ih
/-- the sum moves on by a set of digits -/
theorem zfgs_g {A : Nat → Int} {U : Nat → Nat → Int} {W : Nat → Nat} {n m : Nat} (hn : n ≤ 7) (hm : m < 255) : ∀ k : Nat, k ≤ 8 → zGp (zfgs A W n m k) U n (m + 1) = zGp A U n (m + 1) + zsm (fun d => zsm (fun w => if zbt1 m d = true then 0 else if w + W d < n then A (7 * m + w) * U (m ||| 2 ^ d) (w + W d) else 0) n) k
  | 0, _ => by rw [show zsm _ 0 = 0 from rfl, Int.add_zero]; rfl
  | k + 1, hk => by
    have ih := zfgs_g (A := A) (U := U) (W := W) hn hm k (by omega)
    have hr := zfgs_row (A := A) (W := W) (n := n) hn (show m < 256 by omega) k (by omega)
    have hz := zor_m m (by omega) k (by omega)
    rw [zfgs_s, zsm_s]
    unfold zfg
    by_cases hb : zbt1 m k = true
    · rw [if_pos hb, ih]
      have e : zsm (fun w => if zbt1 m k = true then (0 : Int) else if w + W k < n then A (7 * m + w) * U (m ||| 2 ^ k) (w + W k) else 0) n = 0 := by
        rw [zsm_c (g := fun _ => 0) n (fun w _ => if_pos hb), zsm_z]
      rw [e, Int.add_zero]
    · rw [if_neg hb]
      have hne : (m ||| 2 ^ k) ≠ m := fun e => hb (hz.2.2.1.mpr e)
      rw [zfd_g hn hz.1 (by omega), ih]
      have e : zsm (fun w => if w + W k < n then zfgs A W n m k (7 * m + w) * U (m ||| 2 ^ k) (w + W k) else 0) n = zsm (fun w => if zbt1 m k = true then (0 : Int) else if w + W k < n then A (7 * m + w) * U (m ||| 2 ^ k) (w + W k) else 0) n := by
        refine zsm_c n (fun w hw => ?_)
        rw [if_neg hb, hr w (by omega)]
      rw [e]
      omega
theorem zGp_s {A : Nat → Int} {U : Nat → Nat → Int} {n m : Nat} (hm : m < 256) : zGp A U n m = zGp A U n (m + 1) + zRw A U n m := by
  refine zsm_pt2 (p := m) 256 hm (fun t ht hne => ?_) ?_
  · by_cases h : m ≤ t
    · rw [if_pos h, if_pos (by omega)]
    · rw [if_neg h, if_neg (by omega)]
  · rw [if_pos (Nat.le_refl m), if_neg (by omega), Int.zero_add]
def zVs (U : Nat → Nat → Int) (W : Nat → Nat) (n m w : Nat) : Int := zsm (fun d => if zbt1 m d = true then 0 else if w + W d < n then U (m ||| 2 ^ d) (w + W d) else 0) 8
theorem zfgs_all {A : Nat → Int} {U : Nat → Nat → Int} {W : Nat → Nat} {n m : Nat} (hn : n ≤ 7) (hm : m < 255) : zGp (zfgs A W n m 8) U n (m + 1) = zGp A U n (m + 1) + zsm (fun w => A (7 * m + w) * zVs U W n m w) n := by
  rw [zfgs_g hn hm 8 (by omega), zsm_swap]
  congr 1
  refine zsm_c n (fun w hw => ?_)
  unfold zVs
  rw [← zsm_mulr]
  refine zsm_c 8 (fun d hd => ?_)
  split
  · rw [Int.mul_zero]
  · split
    · rfl
    · rw [Int.mul_zero]
theorem zfgs_eq {A : Nat → Int} {U : Nat → Nat → Int} {W : Nat → Nat} {n m : Nat} (hn : n ≤ 7) (hm : m < 255) (hU : ∀ w : Nat, w < n → zVs U W n m w = U m w) : zGp (zfgs A W n m 8) U n (m + 1) = zGp A U n m := by
  rw [zfgs_all hn hm, zGp_s (m := m) (by omega)]
  congr 1
  exact zsm_c n (fun w hw => by rw [hU w hw])
theorem zfgs_le {A : Nat → Int} {U : Nat → Nat → Int} {W : Nat → Nat} {n m : Nat} (hn : n ≤ 7) (hm : m < 255) (hA : ∀ w : Nat, w < n → 0 ≤ A (7 * m + w)) (hU : ∀ w : Nat, w < n → zVs U W n m w ≤ U m w) : zGp (zfgs A W n m 8) U n (m + 1) ≤ zGp A U n m := by
  rw [zfgs_all hn hm, zGp_s (m := m) (by omega)]
  have : zsm (fun w => A (7 * m + w) * zVs U W n m w) n ≤ zRw A U n m := zsm_le n (fun w hw => Int.mul_le_mul_of_nonneg_left (hU w hw) (hA w hw))
  omega
