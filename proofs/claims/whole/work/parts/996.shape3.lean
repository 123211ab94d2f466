/-! ===== shapes: sums and trees ===== -/
theorem ztot_8 {s : Nat} (h : 8 * s < 32768) : ztot (8 * s) = ztot s := by
  rw [ztot_s h]
  rw [show 8 * s % 8 = 0 by omega, show 8 * s / 8 = s by omega, Nat.zero_add]
theorem ztot_d {a b c d e : Nat} (ha : a < 8) (hb : b < 8) (hc : c < 8) (hd : d < 8) : ztot (a + 8 * b + 64 * c + 512 * d + 4096 * e) = a + b + c + d + e := by
  have h0 : (a + 8 * b + 64 * c + 512 * d + 4096 * e) % 8 = a := by omega
  have h1 : (a + 8 * b + 64 * c + 512 * d + 4096 * e) / 8 % 8 = b := by omega
  have h2 : (a + 8 * b + 64 * c + 512 * d + 4096 * e) / 64 % 8 = c := by omega
  have h3 : (a + 8 * b + 64 * c + 512 * d + 4096 * e) / 512 % 8 = d := by omega
  have h4 : (a + 8 * b + 64 * c + 512 * d + 4096 * e) / 4096 = e := by omega
  unfold ztot
  rw [h0, h1, h2, h3, h4]
theorem ztot_ex (x : Nat) : ∃ a b c d e : Nat, a < 8 ∧ b < 8 ∧ c < 8 ∧ d < 8 ∧ x = a + 8 * b + 64 * c + 512 * d + 4096 * e :=
  ⟨x % 8, x / 8 % 8, x / 64 % 8, x / 512 % 8, x / 4096, by omega, by omega, by omega, by omega, by omega⟩
theorem ztot_a {a b : Nat} (ha : a < 32768) (hb : b < 32768) (h : ztot a + ztot b ≤ 7) : a + b < 32768 ∧ ztot (a + b) = ztot a + ztot b := by
  obtain ⟨a0, a1, a2, a3, a4, p0, p1, p2, p3, rfl⟩ := ztot_ex a
  obtain ⟨b0, b1, b2, b3, b4, q0, q1, q2, q3, rfl⟩ := ztot_ex b
  rw [ztot_d p0 p1 p2 p3, ztot_d q0 q1 q2 q3] at h ⊢
  refine ⟨by omega, ?_⟩
  rw [show a0 + 8 * a1 + 64 * a2 + 512 * a3 + 4096 * a4 + (b0 + 8 * b1 + 64 * b2 + 512 * b3 + 4096 * b4) = (a0 + b0) + 8 * (a1 + b1) + 64 * (a2 + b2) + 512 * (a3 + b3) + 4096 * (a4 + b4) by omega]
  rw [ztot_d (by omega) (by omega) (by omega) (by omega)]
  omega
theorem ztot_X {a b X : Nat} (hX : X = 8 ∨ X = 64 ∨ X = 512 ∨ X = 4096 ∨ X = 32768) (ha : a < X) (hb : b < X) (h : ztot a + ztot b ≤ 7) : a + b < X := by
  obtain ⟨a0, a1, a2, a3, a4, p0, p1, p2, p3, rfl⟩ := ztot_ex a
  obtain ⟨b0, b1, b2, b3, b4, q0, q1, q2, q3, rfl⟩ := ztot_ex b
  rw [ztot_d p0 p1 p2 p3, ztot_d q0 q1 q2 q3] at h
  rcases hX with e | e | e | e | e
  · subst e
    have z1 : a1 = 0 ∧ a2 = 0 ∧ a3 = 0 ∧ a4 = 0 := by omega
    have z2 : b1 = 0 ∧ b2 = 0 ∧ b3 = 0 ∧ b4 = 0 := by omega
    omega
  · subst e
    have z1 : a2 = 0 ∧ a3 = 0 ∧ a4 = 0 := by omega
    have z2 : b2 = 0 ∧ b3 = 0 ∧ b4 = 0 := by omega
    omega
  · subst e
    have z1 : a3 = 0 ∧ a4 = 0 := by omega
    have z2 : b3 = 0 ∧ b4 = 0 := by omega
    omega
  · subst e
    have z1 : a4 = 0 := by omega
    have z2 : b4 = 0 := by omega
    omega
  · subst e
    omega
/-- sums of shapes, of seven rows at most -/
def zSm (A B : Nat → Prop) (x : Nat) : Prop := ∃ a b : Nat, A a ∧ B b ∧ ztot a + ztot b ≤ 7 ∧ x = a + b
/-- the sums over the cues below n that f names -/
def zSk (f : Nat → Prop) (A : Nat → Nat → Prop) : Nat → Nat → Prop
  | 0 => fun x => x = 0
  | k + 1 => fun x => (f k ∧ zSm (zSk f A k) (A k) x) ∨ (¬ f k ∧ zSk f A k x)
/-- the shapes behind a cue, of height h + 1 at most -/
def zTr (m : Nat → Nat → Prop) : Nat → Nat → Nat → Prop
  | 0 => fun _ x => x = 0 ∨ x = 1
  | h + 1 => fun c x => x = 1 ∨ ∃ s : Nat, zSk (m c) (zTr m h) 4 s ∧ x = 8 * s
theorem zSk_s (f : Nat → Prop) (A : Nat → Nat → Prop) (k x : Nat) : zSk f A (k + 1) x = ((f k ∧ zSm (zSk f A k) (A k) x) ∨ (¬ f k ∧ zSk f A k x)) := rfl
/-- all of a set are shapes below X -/
def zIn (X : Nat) (A : Nat → Prop) : Prop := ∀ x : Nat, A x → x < X ∧ ztot x ≤ 7
theorem zSm_in {X : Nat} {A B : Nat → Prop} (hX : X = 8 ∨ X = 64 ∨ X = 512 ∨ X = 4096 ∨ X = 32768) (hA : zIn X A) (hB : zIn X B) : zIn X (zSm A B) := by
  rintro x ⟨a, b, h1, h2, h3, rfl⟩
  have q1 := hA a h1
  have q2 := hB b h2
  have q3 := ztot_a (a := a) (b := b) (by omega) (by omega) h3
  exact ⟨ztot_X hX q1.1 q2.1 h3, by omega⟩
theorem zSk_in {X : Nat} {f : Nat → Prop} {A : Nat → Nat → Prop} (hX : X = 8 ∨ X = 64 ∨ X = 512 ∨ X = 4096 ∨ X = 32768) : ∀ n : Nat, (∀ k : Nat, k < n → zIn X (A k)) → zIn X (zSk f A n)
  | 0, _ => fun x hx => by
    have : x = 0 := hx
    subst this
    exact ⟨by omega, by decide⟩
  | n + 1, h => fun x hx => by
    rw [zSk_s] at hx
    rcases hx with ⟨_, hx⟩ | ⟨_, hx⟩
    · exact zSm_in hX (zSk_in hX n (fun k hk => h k (by omega))) (h n (by omega)) x hx
    · exact zSk_in hX n (fun k hk => h k (by omega)) x hx
theorem zSk_0 {f : Nat → Prop} {A : Nat → Nat → Prop} : ∀ n : Nat, (∀ k : Nat, k < n → A k 0) → zSk f A n 0
  | 0, _ => rfl
  | n + 1, h => by
    rw [zSk_s]
    rcases Classical.em (f n) with q | q
    · exact Or.inl ⟨q, 0, 0, zSk_0 n (fun k hk => h k (by omega)), h n (by omega), by decide, rfl⟩
    · exact Or.inr ⟨q, zSk_0 n (fun k hk => h k (by omega))⟩
theorem zSk_c {f g : Nat → Prop} {A B : Nat → Nat → Prop} : ∀ n : Nat, (∀ k : Nat, k < n → (f k ↔ g k) ∧ ∀ x : Nat, A k x ↔ B k x) → ∀ x : Nat, zSk f A n x ↔ zSk g B n x
  | 0, _ => fun x => Iff.rfl
  | n + 1, h => fun x => by
    have ih := zSk_c n (fun k hk => h k (by omega))
    obtain ⟨h1, h2⟩ := h n (by omega)
    rw [zSk_s, zSk_s, h1, ih x]
    have : zSm (zSk f A n) (A n) x ↔ zSm (zSk g B n) (B n) x := by
      unfold zSm
      constructor
      · rintro ⟨a, b, q1, q2, q3⟩
        exact ⟨a, b, (ih a).1 q1, (h2 b).1 q2, q3⟩
      · rintro ⟨a, b, q1, q2, q3⟩
        exact ⟨a, b, (ih a).2 q1, (h2 b).2 q2, q3⟩
    rw [this]
theorem zTr_0 {m : Nat → Nat → Prop} (c : Nat) : ∀ h : Nat, zTr m h c 0
  | 0 => Or.inl rfl
  | h + 1 => Or.inr ⟨0, zSk_0 4 (fun k _ => zTr_0 k h), rfl⟩
theorem zTr_in {m : Nat → Nat → Prop} : ∀ (h : Nat), h ≤ 4 → ∀ c : Nat, zIn (8 ^ (h + 1)) (zTr m h c)
  | 0, _ => fun c x hx => by
    have hx : x = 0 ∨ x = 1 := hx
    rcases hx with rfl | rfl <;> decide
  | h + 1, hh => fun c x hx => by
    have ih := zTr_in (m := m) h (by omega)
    have hX : 8 ^ (h + 1) = 8 ∨ 8 ^ (h + 1) = 64 ∨ 8 ^ (h + 1) = 512 ∨ 8 ^ (h + 1) = 4096 ∨ 8 ^ (h + 1) = 32768 := by
      have : h = 0 ∨ h = 1 ∨ h = 2 ∨ h = 3 := by omega
      rcases this with rfl | rfl | rfl | rfl <;> decide
    have hX2 : 8 ^ (h + 1) ≤ 4096 := by
      have : h = 0 ∨ h = 1 ∨ h = 2 ∨ h = 3 := by omega
      rcases this with rfl | rfl | rfl | rfl <;> decide
    have e : 8 ^ (h + 1 + 1) = 8 * 8 ^ (h + 1) := by rw [Nat.pow_succ 8 (h + 1)]; omega
    rcases hx with rfl | ⟨s, hs, rfl⟩
    · exact ⟨by omega, by decide⟩
    · have q := zSk_in hX 4 (fun k _ => ih k) s hs
      refine ⟨by omega, ?_⟩
      rw [ztot_8 (by omega)]
      exact q.2
/-- a set moved up by a power of 8 -/
def zsc (P : Nat) (A : Nat → Prop) (y : Nat) : Prop := ∃ x : Nat, A x ∧ y = P * x
theorem zsc_Sm {P X : Nat} {A B : Nat → Prop} (hA : zIn X A) (hB : zIn X B) (hP : ∀ a : Nat, a < X → ztot (P * a) = ztot a) (y : Nat) : zSm (zsc P A) (zsc P B) y ↔ zsc P (zSm A B) y := by
  constructor
  · rintro ⟨_, _, ⟨a, ha, rfl⟩, ⟨b, hb, rfl⟩, h, rfl⟩
    rw [hP a (hA a ha).1, hP b (hB b hb).1] at h
    exact ⟨a + b, ⟨a, b, ha, hb, h, rfl⟩, by rw [Nat.mul_add]⟩
  · rintro ⟨_, ⟨a, b, ha, hb, h, rfl⟩, rfl⟩
    exact ⟨P * a, P * b, ⟨a, ha, rfl⟩, ⟨b, hb, rfl⟩, by rw [hP a (hA a ha).1, hP b (hB b hb).1]; exact h, by rw [Nat.mul_add]⟩
theorem zSm_c {A A' B B' : Nat → Prop} (hA : ∀ x : Nat, A x ↔ A' x) (hB : ∀ x : Nat, B x ↔ B' x) (y : Nat) : zSm A B y ↔ zSm A' B' y := by
  have e1 : A = A' := funext (fun x => propext (hA x))
  have e2 : B = B' := funext (fun x => propext (hB x))
  rw [e1, e2]
theorem zsc_Sk {P X : Nat} {f : Nat → Prop} {A : Nat → Nat → Prop} (hX : X = 8 ∨ X = 64 ∨ X = 512 ∨ X = 4096 ∨ X = 32768) (hP : ∀ a : Nat, a < X → ztot (P * a) = ztot a) : ∀ n : Nat, (∀ k : Nat, k < n → zIn X (A k)) → ∀ y : Nat, zSk f (fun k => zsc P (A k)) n y ↔ zsc P (zSk f A n) y
  | 0, _ => fun y => by
    constructor
    · intro h
      have : y = 0 := h
      exact ⟨0, rfl, by omega⟩
    · rintro ⟨x, h, rfl⟩
      have : x = 0 := h
      subst this
      exact Nat.mul_zero P
  | n + 1, h => fun y => by
    have ih := zsc_Sk (f := f) hX hP n (fun k hk => h k (by omega))
    rw [zSk_s, ih y, zSm_c ih (fun x => Iff.rfl), zsc_Sm (zSk_in hX n (fun k hk => h k (by omega))) (h n (by omega)) hP]
    constructor
    · rintro (⟨q, x, h1, rfl⟩ | ⟨q, x, h1, rfl⟩)
      · exact ⟨x, Or.inl ⟨q, h1⟩, rfl⟩
      · exact ⟨x, Or.inr ⟨q, h1⟩, rfl⟩
    · rintro ⟨x, (⟨q, h1⟩ | ⟨q, h1⟩), rfl⟩
      · exact Or.inl ⟨q, x, h1, rfl⟩
      · exact Or.inr ⟨q, x, h1, rfl⟩
/-- every number below the count is that of a shape -/
theorem zqn_ex : ∀ (y i : Nat), i < zqn y → ∃ x : Nat, x < y ∧ ztot x ≤ 7 ∧ zqn x = i
  | 0, i, h => by have h : i < 0 := h; omega
  | y + 1, i, h => by
    rw [zqn_s] at h
    by_cases q : i < zqn y
    · obtain ⟨x, h1, h2⟩ := zqn_ex y i q
      exact ⟨x, by omega, h2⟩
    · by_cases q2 : ztot y ≤ 7
      · rw [if_pos q2] at h
        exact ⟨y, by omega, q2, by omega⟩
      · rw [if_neg q2] at h
        omega
theorem zqn_lt {x y : Nat} (hx : ztot x ≤ 7) (h : x < y) : zqn x < zqn y := by
  have h1 := zqn_le (x := x + 1) (y - (x + 1))
  rw [show x + 1 + (y - (x + 1)) = y by omega, zqn_s, if_pos hx] at h1
  omega
theorem zqn_inj {x y : Nat} (hx : ztot x ≤ 7) (hy : ztot y ≤ 7) (h : zqn x = zqn y) : x = y := by
  by_cases q : x < y
  · have := zqn_lt hx q; omega
  · by_cases q2 : y < x
    · have := zqn_lt hy q2; omega
    · omega
/-- the i-th shape -/
noncomputable def zqs (i : Nat) : Nat := zcif (i < 792) (Classical.epsilon (fun x : Nat => x < 32768 ∧ ztot x ≤ 7 ∧ zqn x = i)) 0
theorem zqs_p {i : Nat} (hi : i < 792) : zqs i < 32768 ∧ ztot (zqs i) ≤ 7 ∧ zqn (zqs i) = i := by
  have h : ∃ x : Nat, x < 32768 ∧ ztot x ≤ 7 ∧ zqn x = i := zqn_ex 32768 i (by rw [zqn_32]; exact hi)
  unfold zqs
  rw [zcif_p hi]
  exact Classical.epsilon_spec h
theorem zqs_q {x : Nat} (hx : x < 32768) (h : ztot x ≤ 7) : zqn x < 792 ∧ zqs (zqn x) = x := by
  have h1 : zqn x < 792 := by have := zqn_lt h hx; rw [zqn_32] at this; exact this
  have h2 := zqs_p h1
  exact ⟨h1, zqn_inj h2.2.1 h h2.2.2⟩
/-- different shapes below X are no more than there are -/
theorem zpig {K : Nat → Nat} {n : Nat} (hi : ∀ i j : Nat, i < n → j < n → K i = K j → i = j) (hs : ∀ j : Nat, j < n → ztot (K j) ≤ 7) {X : Nat} (hX : ∀ j : Nat, j < n → K j < X) : n ≤ zqn X := by
  have key : ∀ Y : Nat, zcnt (fun j => K j < Y) n ≤ (zqn Y : Int) := by
    intro Y
    induction Y with
    | zero =>
      have : zcnt (fun j => K j < 0) n = 0 := by
        have e : ∀ m : Nat, zcnt (fun j => K j < 0) m = 0 := by
          intro m
          induction m with
          | zero => rfl
          | succ m ih => rw [zcnt_s, ih, zcif_n (by omega)]; rfl
        exact e n
      rw [this]
      exact Int.natCast_nonneg _
    | succ Y ih =>
      have e : ∀ m : Nat, m ≤ n → zcnt (fun j => K j < Y + 1) m ≤ zcnt (fun j => K j < Y) m + (if ztot Y ≤ 7 ∧ ∃ j : Nat, j < m ∧ K j = Y then 1 else 0) := by
        intro m
        induction m with
        | zero => intro _; rw [if_neg (by rintro ⟨_, j, hj, _⟩; omega)]; exact Int.le_refl _
        | succ m ihm =>
          intro hm
          have h1 := ihm (by omega)
          rw [zcnt_s, zcnt_s]
          by_cases q : K m = Y
          · rw [zcif_p (by omega : K m < Y + 1), zcif_n (by omega : ¬ K m < Y), if_pos ⟨by rw [← q]; exact hs m (by omega), m, by omega, q⟩]
            rw [if_neg (by rintro ⟨_, j, hj, hk⟩; have := hi j m (by omega) (by omega) (by omega); omega)] at h1
            omega
          · have e2 : zcif (K m < Y + 1) (1 : Int) 0 = zcif (K m < Y) 1 0 := zcif_c (by omega)
            rw [e2]
            by_cases q2 : ztot Y ≤ 7 ∧ ∃ j : Nat, j < m ∧ K j = Y
            · rw [if_pos q2] at h1
              obtain ⟨q3, j, hj, hk⟩ := q2
              rw [if_pos ⟨q3, j, by omega, hk⟩]
              omega
            · rw [if_neg q2] at h1
              rw [if_neg (fun q3 => q2 (by obtain ⟨q4, j, hj, hk⟩ := q3; exact ⟨q4, j, by have : j ≠ m := (fun e => q (e ▸ hk)); omega, hk⟩))]
              omega
      have h1 := e n (Nat.le_refl _)
      rw [zqn_s]
      split at h1
      · rename_i q
        rw [if_pos q.1]
        omega
      · have : 0 ≤ (if ztot Y ≤ 7 then 1 else 0) := by split <;> omega
        omega
  have h1 := key X
  have h2 : zcnt (fun j => K j < X) n = n := by
    rw [zcnt_c (P' := fun _ => True) n (fun i h => ⟨fun _ => trivial, fun _ => hX i h⟩)]
    exact zcnt_all n
  omega
