/-! ===== shapes of the class ===== -/
/-- bit k of a long -/
def zbL (w : Int) (k : Nat) : Prop := ¬ zland w (zlshl 1 k) = 0
theorem zlsh_b : ∀ k : Nat, k < 64 → (Int64.ofInt 1 <<< ((Int32.ofInt (k : Int)).toInt64 &&& 63)).toBitVec = BitVec.twoPow 64 k := by decide +kernel
theorem zbL_i (w : Int) {k : Nat} (hk : k < 64) : zbL w k ↔ (Int64.ofInt w).toBitVec.getLsbD k = true := by
  unfold zbL zland zlshl
  rw [Int64.ofInt_toInt]
  have e : ((Int64.ofInt w) &&& (Int64.ofInt 1 <<< ((Int32.ofInt (k : Int)).toInt64 &&& 63))).toInt = 0 ↔ (Int64.ofInt w).toBitVec &&& BitVec.twoPow 64 k = 0#64 := by
    rw [← zlsh_b k hk, ← Int64.toBitVec_and]
    constructor
    · intro h
      have : (Int64.ofInt w) &&& (Int64.ofInt 1 <<< ((Int32.ofInt (k : Int)).toInt64 &&& 63)) = 0 := Int64.toInt_inj.1 (h.trans (by decide))
      rw [this]; rfl
    · intro h
      have : (Int64.ofInt w) &&& (Int64.ofInt 1 <<< ((Int32.ofInt (k : Int)).toInt64 &&& 63)) = 0 := Int64.toBitVec_inj.1 h
      rw [this]; rfl
  rw [e, BitVec.and_twoPow]
  cases hb : (Int64.ofInt w).toBitVec.getLsbD k
  · simp
  · simp
    intro h
    have := congrArg (fun v => BitVec.getLsbD v k) h
    simp [hk] at this
theorem zbL_0 {k : Nat} (hk : k < 64) : ¬ zbL 0 k := by
  rw [zbL_i 0 hk]
  have : (Int64.ofInt 0).toBitVec = 0#64 := by decide
  rw [this]
  simp
theorem zbL_or (w : Int) {k j : Nat} (hk : k < 64) (hj : j < 64) : zbL (zlor w (zlshl 1 k)) j ↔ zbL w j ∨ j = k := by
  rw [zbL_i _ hj, zbL_i _ hj]
  unfold zlor zlshl
  rw [Int64.ofInt_toInt, Int64.ofInt_toInt, Int64.toBitVec_or, zlsh_b k hk, BitVec.getLsbD_or, BitVec.getLsbD_twoPow]
  simp
  constructor
  · rintro (h | h)
    · exact Or.inl h
    · exact Or.inr h.2.symm
  · rintro (h | h)
    · exact Or.inl h
    · exact Or.inr ⟨hk, h.symm⟩
theorem zlcm_0 (x : Int) : zlcm x 0 = 0 ↔ x = 0 := by
  unfold zlcm
  split
  · omega
  · split <;> omega
theorem zan63 {x : Nat} (hx : x < 2147483648) : zand (x : Int) 63 = ((x % 64 : Nat) : Int) := by
  have h := zand_n (a := x) (b := 63) hx (by decide)
  rw [show x &&& 63 = x % 64 from Nat.and_two_pow_sub_one_eq_mod x 6] at h
  exact h
theorem zsr6 {x : Nat} (hx : x < 2147483648) : zshr (x : Int) 6 = ((x / 64 : Nat) : Int) := by
  have h := zshr_n (a := x) (k := 6) (by decide) hx
  exact h
/-- p is an object of Shapes with codes c (n long) and starts s -/
def zSO (H : zH) (p c s n : Nat) : Prop := zK H p = 5 ∧ zR H p 0 = some c ∧ zR H p 1 = some s ∧ zK H c = 100 ∧ zN H c = n ∧ zK H s = 100 ∧ zN H s = 9
theorem zSO_md {S : Nat → Nat → Bool} {H G : zH} {p c s n : Nat} (hm : zmd S H G) (h : zSO H p c s n) : zSO G p c s n := by
  unfold zSO
  rw [zmd_K hm, zmd_K hm, zmd_K hm, zmd_N hm, zmd_N hm, hm.2.2.1, hm.2.2.1]
  exact h
/-- the codes K at the starts S, with the set A -/
def zGd (S K : Nat → Nat) (A : Nat → Prop) : Prop := S 0 = 0 ∧ (∀ i : Nat, i < 8 → S i ≤ S (i + 1)) ∧ (∀ i j : Nat, i < 8 → S i ≤ j → j < S (i + 1) → ztot (K j) = i) ∧ (∀ j : Nat, j < S 8 → K j < 32768) ∧ (∀ i j : Nat, i < S 8 → j < S 8 → K i = K j → i = j) ∧ ∀ x : Nat, A x ↔ ∃ j : Nat, j < S 8 ∧ K j = x
def zRp (H : zH) (c s n : Nat) (S K : Nat → Nat) : Prop := (∀ i : Nat, i ≤ 8 → zA H s i = S i) ∧ (∀ j : Nat, j < S 8 → zA H c j = K j) ∧ S 8 ≤ n
def zSh (H : zH) (c s n : Nat) (S K : Nat → Nat) (A : Nat → Prop) : Prop := zRp H c s n S K ∧ zGd S K A
theorem zGd_m {S K : Nat → Nat} {A : Nat → Prop} (h : zGd S K A) : ∀ k i : Nat, i + k ≤ 8 → S i ≤ S (i + k)
  | 0, i, _ => Nat.le_refl _
  | k + 1, i, hi => by
    have h1 := zGd_m h k i (by omega)
    have h2 := h.2.1 (i + k) (by omega)
    rw [Nat.add_assoc] at h2
    omega
theorem zGd_le {S K : Nat → Nat} {A : Nat → Prop} (h : zGd S K A) {i k : Nat} (hi : i ≤ k) (hk : k ≤ 8) : S i ≤ S k := by
  have := zGd_m h (k - i) i (by omega)
  rw [show i + (k - i) = k by omega] at this
  exact this
theorem zstair {S : Nat → Nat} (h0 : S 0 = 0) : ∀ n j : Nat, j < S n → ∃ i : Nat, i < n ∧ S i ≤ j ∧ j < S (i + 1)
  | 0, j, h => by omega
  | n + 1, j, h => by
    by_cases q : j < S n
    · obtain ⟨i, a, b, c⟩ := zstair h0 n j q
      exact ⟨i, by omega, b, c⟩
    · exact ⟨n, by omega, by omega, h⟩
theorem zGd_A {S K : Nat → Nat} {A : Nat → Prop} (h : zGd S K A) {i x : Nat} (hi : i < 8) : (A x ∧ ztot x = i) ↔ ∃ j : Nat, S i ≤ j ∧ j < S (i + 1) ∧ K j = x := by
  constructor
  · rintro ⟨hA, ht⟩
    obtain ⟨j, hj, rfl⟩ := (h.2.2.2.2.2 x).mp hA
    obtain ⟨k, h1, h2, h3⟩ := zstair h.1 8 j hj
    have := h.2.2.1 k j h1 h2 h3
    have e : k = i := by omega
    subst e
    exact ⟨j, h2, h3, rfl⟩
  · rintro ⟨j, h2, h3, rfl⟩
    have hj := zGd_le h (i := i + 1) (k := 8) (by omega) (by omega)
    exact ⟨(h.2.2.2.2.2 _).mpr ⟨j, by omega, rfl⟩, h.2.2.1 i j hi h2 h3⟩
theorem zGd_t {S K : Nat → Nat} {A : Nat → Prop} (h : zGd S K A) {j : Nat} (hj : j < S 8) : ztot (K j) ≤ 7 := by
  obtain ⟨k, h1, h2, h3⟩ := zstair h.1 8 j hj
  have := h.2.2.1 k j h1 h2 h3
  omega
theorem zGd_in {S K : Nat → Nat} {A : Nat → Prop} (h : zGd S K A) : zIn 32768 A := by
  intro x hx
  obtain ⟨j, hj, rfl⟩ := (h.2.2.2.2.2 x).mp hx
  exact ⟨h.2.2.2.1 j hj, zGd_t h hj⟩
theorem zGd_c {S K : Nat → Nat} {A B : Nat → Prop} (h : zGd S K A) (e : ∀ x : Nat, A x ↔ B x) : zGd S K B := ⟨h.1, h.2.1, h.2.2.1, h.2.2.2.1, h.2.2.2.2.1, fun x => (e x).symm.trans (h.2.2.2.2.2 x)⟩
theorem zin2 {c a j : Nat} : zin [c, 32] [] a j = false ↔ (a ≠ c ∧ a ≠ 32) := by
  simp [zin]
theorem zin2c {c j : Nat} : zin [c, 32] [] c j = true := by simp [zin]
theorem zin2w {c j : Nat} : zin [c, 32] [] 32 j = true := by simp [zin]
/-- the codes found so far, and their bits -/
def zAd (H G : zH) (c n : Nat) (K : Nat → Nat) (D : Nat → Prop) : Prop := zmd (zin [c, 32] []) H G ∧ (∀ j : Nat, j < n → zA G c j = K j) ∧ (∀ x : Nat, x < 32768 → (zbL (zA G 32 (x / 64)) (x % 64) ↔ D x)) ∧ (∀ x : Nat, D x ↔ ∃ j : Nat, j < n ∧ K j = x) ∧ (∀ j : Nat, j < n → K j < 32768 ∧ ztot (K j) ≤ 7) ∧ (∀ i j : Nat, i < n → j < n → K i = K j → i = j) ∧ (∀ i : Nat, i < 512 → zA G 32 i = 0 ∨ ∃ j : Nat, j < n ∧ K j / 64 = i)
theorem zAd_c {H G : zH} {c n : Nat} {K : Nat → Nat} {D E : Nat → Prop} (h : zAd H G c n K D) (e : ∀ x : Nat, D x ↔ E x) : zAd H G c n K E := by
  have : D = E := funext (fun x => propext (e x))
  rw [← this]; exact h
theorem zAd_n {H G : zH} {c n : Nat} {K : Nat → Nat} {D : Nat → Prop} (h : zAd H G c n K D) : n ≤ 792 := by
  have := zpig h.2.2.2.2.2.1 (fun j hj => (h.2.2.2.2.1 j hj).2) (X := 32768) (fun j hj => (h.2.2.2.2.1 j hj).1)
  rw [zqn_32] at this
  exact this
theorem zAd_x {H G : zH} {c n : Nat} {K : Nat → Nat} {D : Nat → Prop} (h : zAd H G c n K D) {x : Nat} (hx : x < 32768) (ht : ztot x ≤ 7) (hD : ¬ D x) : n < 792 := by
  obtain ⟨_, _, _, h4, h5, h6, _⟩ := h
  have nx : ∀ j : Nat, j < n → K j ≠ x := fun j hj e => hD ((h4 x).mpr ⟨j, hj, e⟩)
  have := zpig (K := fun j => if j = n then x else K j) (n := n + 1) (fun i j hi hj => by
    by_cases ei : i = n
    · by_cases ej : j = n
      · intro _; omega
      · simp only [if_pos ei, if_neg ej]
        exact fun e => absurd e.symm (nx j (by omega))
    · by_cases ej : j = n
      · simp only [if_pos ej, if_neg ei]
        exact fun e => absurd e (nx i (by omega))
      · simp only [if_neg ei, if_neg ej]
        exact h6 i j (by omega) (by omega)) (fun j hj => by
    by_cases ej : j = n
    · simp only [if_pos ej]; exact ht
    · simp only [if_neg ej]; exact (h5 j (by omega)).2) (X := 32768) (fun j hj => by
    by_cases ej : j = n
    · simp only [if_pos ej]; exact hx
    · simp only [if_neg ej]; exact (h5 j (by omega)).1)
  rw [zqn_32] at this
  omega
def zKp (K : Nat → Nat) (n x j : Nat) : Nat := if j = n then x else K j
theorem zKp_e {K : Nat → Nat} {n x : Nat} : zKp K n x n = x := if_pos rfl
theorem zKp_n {K : Nat → Nat} {n x j : Nat} (h : ¬ j = n) : zKp K n x j = K j := if_neg h
theorem zAd_go {H G : zH} {c n : Nat} {K : Nat → Nat} {D : Nat → Prop} (hc : c ≠ 32) (h : zAd H G c n K D) {x : Nat} (hx : x < 32768) (ht : ztot x ≤ 7) (hD : ¬ D x) : zAd H (zwA (zwA G 32 (x / 64) (zlor (zA G 32 (x / 64)) (zlshl 1 (x % 64 : Nat)))) c n x) c (n + 1) (zKp K n x) (fun y => D y ∨ y = x) := by
  obtain ⟨h1, h2, h3, h4, h5, h6, h7⟩ := h
  have nx : ∀ j : Nat, j < n → K j ≠ x := fun j hj e => hD ((h4 x).mpr ⟨j, hj, e⟩)
  refine ⟨zmd_w (zmd_w h1 zin2w) zin2c, fun j hj => ?_, fun y hy => ?_, fun y => ?_, fun j hj => ?_, fun i j hi hj => ?_, fun i hi => ?_⟩
  · rw [zA_wA, zA_wA]
    by_cases ej : j = n
    · rw [if_pos ⟨rfl, ej⟩, ej, zKp_e]
    · rw [if_neg (fun q => ej q.2), if_neg (fun q => hc q.1), zKp_n ej]
      exact h2 j (by omega)
  · rw [zA_wA, zA_wA, if_neg (fun q => hc q.1.symm)]
    by_cases e : y / 64 = x / 64
    · rw [if_pos ⟨rfl, e⟩, zbL_or _ (by omega) (by omega), ← e, h3 y hy]
      constructor
      · rintro (q | q)
        · exact Or.inl q
        · exact Or.inr (by omega)
      · rintro (q | q)
        · exact Or.inl q
        · exact Or.inr (by rw [q])
    · rw [if_neg (fun q => e q.2), h3 y hy]
      exact ⟨Or.inl, fun q => q.elim id (fun q => absurd (by rw [q]) e)⟩
  · constructor
    · rintro (q | q)
      · obtain ⟨j, hj, e⟩ := (h4 y).mp q
        exact ⟨j, by omega, by rw [zKp_n (by omega)]; exact e⟩
      · exact ⟨n, by omega, by rw [zKp_e, q]⟩
    · rintro ⟨j, hj, e⟩
      by_cases ej : j = n
      · rw [ej, zKp_e] at e; exact Or.inr e.symm
      · rw [zKp_n ej] at e; exact Or.inl ((h4 y).mpr ⟨j, by omega, e⟩)
  · by_cases ej : j = n
    · rw [ej, zKp_e]; exact ⟨hx, ht⟩
    · rw [zKp_n ej]; exact h5 j (by omega)
  · by_cases ei : i = n
    · by_cases ej : j = n
      · intro _; omega
      · rw [ei, zKp_e, zKp_n ej]
        exact fun e => absurd e.symm (nx j (by omega))
    · by_cases ej : j = n
      · rw [ej, zKp_e, zKp_n ei]
        exact fun e => absurd e (nx i (by omega))
      · rw [zKp_n ei, zKp_n ej]
        exact h6 i j (by omega) (by omega)
  · rw [zA_wA, zA_wA, if_neg (fun q => hc q.1.symm)]
    by_cases e : i = x / 64
    · exact Or.inr ⟨n, by omega, by rw [zKp_e, e]⟩
    · rw [if_neg (fun q => e q.2)]
      rcases h7 i hi with q | ⟨j, hj, q⟩
      · exact Or.inl q
      · exact Or.inr ⟨j, by omega, by rw [zKp_n (by omega)]; exact q⟩
/-- more codes, all of t rows -/
def zXt (n0 : Nat) (K0 : Nat → Nat) (t n : Nat) (K : Nat → Nat) : Prop := n0 ≤ n ∧ (∀ j : Nat, j < n0 → K j = K0 j) ∧ ∀ j : Nat, n0 ≤ j → j < n → ztot (K j) = t
theorem zXt_0 (n0 : Nat) (K0 : Nat → Nat) (t : Nat) : zXt n0 K0 t n0 K0 := ⟨Nat.le_refl _, fun _ _ => rfl, fun j h1 h2 => by omega⟩
theorem zXt_1 {n0 : Nat} {K0 : Nat → Nat} {t n : Nat} {K : Nat → Nat} {x : Nat} (h : zXt n0 K0 t n K) (ht : ztot x = t) : zXt n0 K0 t (n + 1) (zKp K n x) := by
  obtain ⟨a, b, c⟩ := h
  refine ⟨by omega, fun j hj => ?_, fun j h1 h2 => ?_⟩
  · rw [zKp_n (show ¬ j = n by omega)]; exact b j hj
  · by_cases e : j = n
    · rw [e, zKp_e]; exact ht
    · rw [zKp_n e]; exact c j h1 (by omega)
theorem zXt_t {n0 n1 n2 : Nat} {K0 K1 K2 : Nat → Nat} {t : Nat} (h : zXt n0 K0 t n1 K1) (h' : zXt n1 K1 t n2 K2) : zXt n0 K0 t n2 K2 := by
  obtain ⟨a, b, c⟩ := h
  obtain ⟨a', b', c'⟩ := h'
  refine ⟨by omega, fun j hj => by rw [b' j (by omega)]; exact b j hj, fun j h1 h2 => ?_⟩
  by_cases q : j < n1
  · rw [b' j q]; exact c j h1 q
  · exact c' j (by omega) h2
