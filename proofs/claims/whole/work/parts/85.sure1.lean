/-! ===== the least wrong ones ===== -/
/-- the least of what goes on from a set of digits, up to k digits looked at -/
def zMp (f : Nat → Int) (m : Nat) : Nat → Int := zfo (fun e acc => if zbt1 m e = true then acc else if f e < acc then f e else acc) 1000000
def zMn (K : Nat → Nat → Int) : Nat → Nat → Int
  | 0, _ => 0
  | r + 1, m => zMp (fun e => zMn K r (m ||| 2 ^ e) + K (7 - r) e) m 8
theorem zMn_s (K : Nat → Nat → Int) (r m : Nat) : zMn K (r + 1) m = zMp (fun e => zMn K r (m ||| 2 ^ e) + K (7 - r) e) m 8 := rfl
theorem zMp_s (f : Nat → Int) (m k : Nat) : zMp f m (k + 1) = if zbt1 m k = true then zMp f m k else if f k < zMp f m k then f k else zMp f m k := rfl
theorem zMp_b {f : Nat → Int} {m : Nat} : ∀ k : Nat, (∀ e : Nat, e < k → zbt1 m e = false → 0 ≤ f e) → 0 ≤ zMp f m k ∧ zMp f m k ≤ 1000000
  | 0, _ => ⟨show (0 : Int) ≤ 1000000 by decide, show (1000000 : Int) ≤ 1000000 by decide⟩
  | k + 1, h => by
    have ih := zMp_b k (fun e he => h e (by omega))
    rw [zMp_s]
    split
    · exact ih
    · rename_i hb
      have := h k (by omega) (by simpa using hb)
      split <;> omega
theorem zMp_l {f : Nat → Int} {m : Nat} : ∀ k e : Nat, e < k → zbt1 m e = false → zMp f m k ≤ f e
  | 0, e, he, _ => by omega
  | k + 1, e, he, hb => by
    rw [zMp_s]
    rcases Nat.lt_or_ge e k with q | q
    · have ih := zMp_l (f := f) k e q hb
      split
      · exact ih
      · split <;> omega
    · have ee : e = k := by omega
      subst ee
      rw [if_neg (by rw [hb]; decide)]
      split <;> omega
theorem zMp_x {f : Nat → Int} {m : Nat} : ∀ k : Nat, zMp f m k < 1000000 → ∃ e : Nat, e < k ∧ zbt1 m e = false ∧ zMp f m k = f e
  | 0, h => absurd (show (1000000 : Int) < 1000000 from h) (by decide)
  | k + 1, h => by
    rw [zMp_s] at h ⊢
    by_cases hb : zbt1 m k = true
    · rw [if_pos hb] at h ⊢
      obtain ⟨e, a, b, c⟩ := zMp_x k h
      exact ⟨e, by omega, b, c⟩
    · rw [if_neg hb] at h ⊢
      by_cases hl : f k < zMp f m k
      · rw [if_pos hl]
        exact ⟨k, by omega, by simpa using hb, rfl⟩
      · rw [if_neg hl] at h ⊢
        obtain ⟨e, a, b, c⟩ := zMp_x k h
        exact ⟨e, by omega, b, c⟩
theorem zMn_b {K : Nat → Nat → Int} (hK : ∀ k e : Nat, k < 8 → e < 8 → 0 ≤ K k e) : ∀ r m : Nat, r ≤ 8 → 0 ≤ zMn K r m ∧ zMn K r m ≤ 1000000
  | 0, _, _ => ⟨Int.le_refl 0, show (0 : Int) ≤ 1000000 by decide⟩
  | r + 1, m, hr => by
    rw [zMn_s]
    exact zMp_b 8 (fun e he _ => by have := (zMn_b hK r (m ||| 2 ^ e) (by omega)).1; have := hK (7 - r) e (by omega) he; omega)
theorem zMp_c {f f' : Nat → Int} {m : Nat} : ∀ k : Nat, (∀ e : Nat, e < k → f e = f' e) → zMp f m k = zMp f' m k
  | 0, _ => rfl
  | k + 1, h => by rw [zMp_s, zMp_s, zMp_c k (fun e he => h e (by omega)), h k (by omega)]
theorem zMn_c {K K' : Nat → Nat → Int} (h : ∀ k e : Nat, k < 8 → e < 8 → K k e = K' k e) : ∀ r m : Nat, r ≤ 8 → zMn K r m = zMn K' r m
  | 0, _, _ => rfl
  | r + 1, m, hr => by
    rw [zMn_s, zMn_s]
    exact zMp_c 8 (fun e he => by rw [zMn_c h r _ (by omega), h (7 - r) e (by omega) he])
/-- books that fit are there just if the least wrong ones do -/
theorem zNn_M {W : Nat → Nat → Nat} {n : Nat} (hn : n ≤ 7) : ∀ r m w : Nat, r ≤ 8 → (0 < zNn W n r m w ↔ (w : Int) + zMn (fun k e => (W k e : Int)) r m < n)
  | 0, m, w, _ => by
    unfold zNn zMn
    split <;> omega
  | r + 1, m, w, hr => by
    have hb := fun m => zMn_b (K := fun k e => (W k e : Int)) (fun k e _ _ => by omega) r m (by omega)
    by_cases hw : w < n
    · rw [zNn_p W hw, zMn_s]
      constructor
      · rintro ⟨e, a, b, c⟩
        have h1 := (zNn_M hn r (m ||| 2 ^ e) (w + W (7 - r) e) (by omega)).mp c
        have h2 := zMp_l (f := fun e => zMn (fun k e => (W k e : Int)) r (m ||| 2 ^ e) + (W (7 - r) e : Int)) 8 e a b
        omega
      · intro h
        obtain ⟨e, a, b, c⟩ := zMp_x (f := fun e => zMn (fun k e => (W k e : Int)) r (m ||| 2 ^ e) + (W (7 - r) e : Int)) (m := m) 8 (by omega)
        refine ⟨e, a, b, (zNn_M hn r (m ||| 2 ^ e) (w + W (7 - r) e) (by omega)).mpr ?_⟩
        omega
    · rw [zNn_0 hw]
      have := (zMn_b (K := fun k e => (W k e : Int)) (fun k e _ _ => by omega) (r + 1) m hr).1
      omega
/-- ways to a set of digits by the cues below -/
def zRch (W : Nat → Nat → Nat) : Nat → Nat → Nat → Prop
  | 0, m, v => m = 0 ∧ v = 0
  | k + 1, m, v => ∃ y v0 e : Nat, zRch W k y v0 ∧ e < 8 ∧ zbt1 y e = false ∧ m = (y ||| 2 ^ e) ∧ v = v0 + W k e
theorem zRch_s (W : Nat → Nat → Nat) (k m v : Nat) : zRch W (k + 1) m v = ∃ y v0 e : Nat, zRch W k y v0 ∧ e < 8 ∧ zbt1 y e = false ∧ m = (y ||| 2 ^ e) ∧ v = v0 + W k e := rfl
theorem zRch_m {W : Nat → Nat → Nat} : ∀ k m v : Nat, zRch W k m v → m < 256 ∧ zpc m = k
  | 0, m, v, h => by rw [h.1]; exact ⟨by omega, by decide⟩
  | k + 1, m, v, h => by
    obtain ⟨y, v0, e, h1, h2, h3, rfl, rfl⟩ := h
    obtain ⟨a, b⟩ := zRch_m k y v0 h1
    have := zor_m y a e h2
    exact ⟨this.1, by rw [this.2.2.2 h3, b]⟩
/-- what can be ended as c has q -/
theorem zEx_A {W : Nat → Nat → Nat} {n c q : Nat} (hn : n ≤ 7) (hc : c < 8) : ∀ r m v : Nat, r ≤ 8 → 8 - r ≤ c → zRch W (8 - r) m v → zEx W n r m v c q → q < 8 ∧ ∃ x u : Nat, zRch W c x u ∧ zbt1 x q = false ∧ (u : Int) + W c q + zMn (fun k e => (W k e : Int)) (7 - c) (x ||| 2 ^ q) < n
  | 0, m, v, _, h, _, _ => by omega
  | r + 1, m, v, hr, h, h1, h2 => by
    rw [zEx_s] at h2
    obtain ⟨-, e, a1, a2, (⟨b1, b2, b3⟩ | ⟨b1, b2⟩)⟩ := h2
    · subst b2
      have h3 := (zNn_M hn r (m ||| 2 ^ q) (v + W (7 - r) q) (by omega)).mp b3
      refine ⟨a1, m, v, by rw [b1, show 7 - r = 8 - (r + 1) by omega]; exact h1, a2, ?_⟩
      rw [b1, show 7 - (7 - r) = r by omega]
      omega
    · refine zEx_A hn hc r (m ||| 2 ^ e) (v + W (7 - r) e) (by omega) (by omega) ?_ b2
      rw [show 8 - r = (7 - r) + 1 by omega, zRch_s]
      exact ⟨m, v, e, by rw [show 7 - r = 8 - (r + 1) by omega]; exact h1, a1, a2, rfl, by rw [show 7 - r = 7 - r from rfl]⟩
theorem zEx_w {W : Nat → Nat → Nat} {n c q : Nat} : ∀ r m w : Nat, zEx W n r m w c q → w < n
  | 0, _, _, h => h.elim
  | _ + 1, _, _, h => h.1
theorem zEx_B {W : Nat → Nat → Nat} {n c q : Nat} (hc : c < 8) : ∀ k m v : Nat, k ≤ c → zRch W k m v → zEx W n (8 - k) m v c q → zEx W n 8 0 0 c q
  | 0, m, v, _, h, hE => by rw [h.1, h.2] at hE; exact hE
  | k + 1, m, v, hk, h, hE => by
    obtain ⟨y, v0, e, h1, h2, h3, rfl, rfl⟩ := h
    refine zEx_B hc k y v0 (by omega) h1 ?_
    rw [show 8 - k = (7 - k) + 1 by omega, zEx_s]
    have hw := zEx_w _ _ _ hE
    refine ⟨by omega, e, h2, h3, Or.inr ⟨by omega, ?_⟩⟩
    rw [show 7 - (7 - k) = k by omega, show 7 - k = 8 - (k + 1) by omega]
    exact hE
theorem zEx_C {W : Nat → Nat → Nat} {n c q x u : Nat} (hn : n ≤ 7) (hc : c < 8) (hq : q < 8) (h1 : zRch W c x u) (h2 : zbt1 x q = false) (h3 : (u : Int) + W c q + zMn (fun k e => (W k e : Int)) (7 - c) (x ||| 2 ^ q) < n) : zEx W n 8 0 0 c q := by
  refine zEx_B hc c x u (by omega) h1 ?_
  have hb := (zMn_b (K := fun k e => (W k e : Int)) (fun k e _ _ => by omega) (7 - c) (x ||| 2 ^ q) (by omega)).1
  rw [show 8 - c = (7 - c) + 1 by omega, zEx_s, show 7 - (7 - c) = c by omega]
  refine ⟨by omega, q, hq, h2, Or.inl ⟨rfl, rfl, (zNn_M hn (7 - c) (x ||| 2 ^ q) (u + W c q) (by omega)).mpr (by omega)⟩⟩
/-- the least ways to sets, found from below -/
def zah1 (A : Nat → Int) (W : Nat → Nat) (m e : Nat) : Nat → Int := if zbt1 m e = true then A else fun x => if x = (m ||| 2 ^ e) then (if A m + W e < A (m ||| 2 ^ e) then A m + W e else A (m ||| 2 ^ e)) else A x
theorem zah1_v (A : Nat → Int) (W : Nat → Nat) (m e x : Nat) : zah1 A W m e x = if zbt1 m e = true then A x else if x = (m ||| 2 ^ e) then (if A m + W e < A (m ||| 2 ^ e) then A m + W e else A (m ||| 2 ^ e)) else A x := by
  unfold zah1
  split <;> rfl
def zahs (A : Nat → Int) (W : Nat → Nat) (m k : Nat) : Nat → Int := zfo (fun e B => zah1 B W m e) A k
def zahl (W : Nat → Nat → Nat) (m : Nat) : Nat → Int := zfo (fun m B => zahs B (W (zpc m)) m 8) (fun x => if x = 0 then 0 else 1000000) m
theorem zahs_s (A : Nat → Int) (W : Nat → Nat) (m k : Nat) : zahs A W m (k + 1) = zah1 (zahs A W m k) W m k := rfl
theorem zahl_s (W : Nat → Nat → Nat) (m : Nat) : zahl W (m + 1) = zahs (zahl W m) (W (zpc m)) m 8 := rfl
/-- good: within bounds, and every number told is a way's -/
def zagd (W : Nat → Nat → Nat) (A : Nat → Int) : Prop := ∀ x : Nat, x < 256 → (0 ≤ A x ∧ A x ≤ 1000000) ∧ (A x = 1000000 ∨ ∃ v : Nat, zRch W (zpc x) x v ∧ A x = v)
theorem zah1_g {W : Nat → Nat → Nat} {A : Nat → Int} {m e : Nat} (hW : ∀ k e : Nat, k < 8 → e < 8 → W k e ≤ 1000) (hm : m < 255) (he : e < 8) (h : zagd W A) : zagd W (zah1 A (W (zpc m)) m e) := by
  intro x hx
  have hxx := h x hx
  have hmm := h m (by omega)
  rw [zah1_v]
  by_cases hb : zbt1 m e = true
  · rw [if_pos hb]; exact hxx
  · rw [if_neg hb]
    have hbf : zbt1 m e = false := by simpa using hb
    have hz := zor_m m (by omega) e he
    by_cases ex : x = (m ||| 2 ^ e)
    · rw [if_pos ex]
      subst ex
      split
      · rename_i hl
        refine ⟨by omega, ?_⟩
        rcases hmm.2 with q | ⟨v, q1, q2⟩
        · omega
        · refine Or.inr ⟨v + W (zpc m) e, ?_, by omega⟩
          rw [hz.2.2.2 hbf, zRch_s]
          exact ⟨m, v, e, q1, he, hbf, rfl, rfl⟩
      · exact hxx
    · rw [if_neg ex]
      exact hxx
theorem zahs_g {W : Nat → Nat → Nat} {A : Nat → Int} {m : Nat} (hW : ∀ k e : Nat, k < 8 → e < 8 → W k e ≤ 1000) (hm : m < 255) (h : zagd W A) : ∀ k : Nat, k ≤ 8 → zagd W (zahs A (W (zpc m)) m k)
  | 0, _ => h
  | k + 1, hk => by rw [zahs_s]; exact zah1_g hW hm (by omega) (zahs_g hW hm h k (by omega))
theorem zahl_g {W : Nat → Nat → Nat} (hW : ∀ k e : Nat, k < 8 → e < 8 → W k e ≤ 1000) : ∀ m : Nat, m ≤ 255 → zagd W (zahl W m)
  | 0, _ => fun x hx => by
    show (0 ≤ (if x = 0 then (0 : Int) else 1000000) ∧ (if x = 0 then (0 : Int) else 1000000) ≤ 1000000) ∧ ((if x = 0 then (0 : Int) else 1000000) = 1000000 ∨ _)
    by_cases e : x = 0
    · subst e
      exact ⟨by decide, Or.inr ⟨0, ⟨rfl, rfl⟩, rfl⟩⟩
    · rw [if_neg e]
      exact ⟨by decide, Or.inl rfl⟩
  | m + 1, hm => by rw [zahl_s]; exact zahs_g hW (by omega) (zahl_g hW m (by omega)) 8 (by omega)
theorem zah1_le (A : Nat → Int) (W : Nat → Nat) (m e x : Nat) : zah1 A W m e x ≤ A x := by
  rw [zah1_v]
  split
  · exact Int.le_refl _
  · split
    · rename_i h
      rw [h]
      split <;> omega
    · exact Int.le_refl _
theorem zahs_m {A : Nat → Int} {W : Nat → Nat} {m : Nat} (hm : m < 256) : ∀ k : Nat, k ≤ 8 → zahs A W m k m = A m
  | 0, _ => rfl
  | k + 1, hk => by
    rw [zahs_s]
    have ih := zahs_m (A := A) (W := W) hm k (by omega)
    rw [zah1_v]
    split
    · exact ih
    · rename_i hb
      have hz := zor_m m hm k (by omega)
      rw [if_neg (fun e => hb (hz.2.2.1.mpr e.symm))]
      exact ih
theorem zahs_le {A : Nat → Int} {W : Nat → Nat} {m : Nat} (hm : m < 256) : ∀ k : Nat, k ≤ 8 → (∀ x : Nat, zahs A W m k x ≤ A x) ∧ ∀ e : Nat, e < k → zbt1 m e = false → zahs A W m k (m ||| 2 ^ e) ≤ A m + W e
  | 0, _ => ⟨fun x => Int.le_refl _, fun e he => by omega⟩
  | k + 1, hk => by
    obtain ⟨a, b⟩ := zahs_le (A := A) (W := W) hm k (by omega)
    have hmm := zahs_m (A := A) (W := W) hm k (by omega)
    refine ⟨fun x => ?_, fun e he hb => ?_⟩
    · rw [zahs_s]
      exact Int.le_trans (zah1_le _ _ _ _ _) (a x)
    · rw [zahs_s]
      rcases Nat.lt_or_ge e k with q | q
      · exact Int.le_trans (zah1_le _ _ _ _ _) (b e q hb)
      · have ee : e = k := by omega
        subst ee
        rw [zah1_v, if_neg (by rw [hb]; decide), if_pos rfl, hmm]
        split <;> omega
theorem zahl_le {W : Nat → Nat → Nat} : ∀ m : Nat, m ≤ 255 → ∀ y v e : Nat, y < m → (∀ v : Nat, zRch W (zpc y) y v → zahl W y y ≤ v) → zRch W (zpc y) y v → e < 8 → zbt1 y e = false → zahl W m (y ||| 2 ^ e) ≤ v + W (zpc y) e
  | 0, _, y, _, _, h, _, _, _, _ => by omega
  | m + 1, hm, y, v, e, h, h0, h1, h2, h3 => by
    obtain ⟨a, b⟩ := zahs_le (A := zahl W m) (W := W (zpc m)) (m := m) (by omega) 8 (by omega)
    rw [zahl_s]
    rcases Nat.lt_or_ge y m with q | q
    · exact Int.le_trans (a _) (zahl_le m (by omega) y v e q h0 h1 h2 h3)
    · have ey : y = m := by omega
      subst ey
      have := b e h2 h3
      have := h0 v h1
      omega
theorem zahl_mono {W : Nat → Nat → Nat} : ∀ k m x : Nat, m + k ≤ 255 → zahl W (m + k) x ≤ zahl W m x
  | 0, m, x, _ => Int.le_refl _
  | k + 1, m, x, h => by
    rw [show m + (k + 1) = m + k + 1 by omega, zahl_s]
    exact Int.le_trans ((zahs_le (A := zahl W (m + k)) (W := W (zpc (m + k))) (m := m + k) (by omega) 8 (by omega)).1 x) (zahl_mono k m x (by omega))
theorem zor_lt : ∀ y : Nat, y < 256 → ∀ e : Nat, e < 8 → zbt1 y e = false → y < (y ||| 2 ^ e) := by decide +kernel
/-- below, the least is told -/
theorem zahl_x {W : Nat → Nat → Nat} : ∀ b x : Nat, x ≤ b → x ≤ 255 → ∀ v : Nat, zRch W (zpc x) x v → zahl W x x ≤ v
  | 0, x, hx, _, v, h => by
    have e : x = 0 := by omega
    subst e
    show (0 : Int) ≤ v
    omega
  | b + 1, x, hx, hx2, v, h => by
    cases hp : zpc x with
    | zero =>
      have e : x = 0 := (zpc_le x (by omega)).2.2.2 hp
      subst e
      show (0 : Int) ≤ v
      omega
    | succ k =>
      rw [hp, zRch_s] at h
      obtain ⟨y, v0, e, h1, h2, h3, rfl, rfl⟩ := h
      obtain ⟨ym, yp⟩ := zRch_m _ _ _ h1
      have hlt := zor_lt y ym e h2 h3
      have ih := zahl_x (W := W) b y (by omega) (by omega)
      rw [← yp] at h1
      have := zahl_le (y ||| 2 ^ e) hx2 y v0 e hlt ih h1 h2 h3
      rw [yp] at this
      omega
theorem zRch_ex : ∀ x : Nat, 0 < x → x < 256 → ∃ y e : Nat, y < x ∧ e < 8 ∧ zbt1 y e = false ∧ x = (y ||| 2 ^ e) := by
  have h : ∀ x : Nat, x < 256 → 0 < x → ∃ e : Nat, e < 8 ∧ (x - 2 ^ e < x ∧ zbt1 (x - 2 ^ e) e = false ∧ x = ((x - 2 ^ e) ||| 2 ^ e)) := by decide +kernel
  intro x h1 h2
  obtain ⟨e, a, b, c, d⟩ := h x h2 h1
  exact ⟨_, e, b, a, c, d⟩
theorem zRch_all {W : Nat → Nat → Nat} (hW : ∀ k e : Nat, k < 8 → e < 8 → W k e ≤ 1000) : ∀ b x : Nat, x ≤ b → x < 256 → ∃ v : Nat, zRch W (zpc x) x v ∧ v ≤ 1000 * zpc x
  | 0, x, hx, _ => ⟨0, by rw [show x = 0 by omega]; exact ⟨rfl, rfl⟩, by omega⟩
  | b + 1, x, hx, hx2 => by
    rcases Nat.eq_zero_or_pos x with q | q
    · exact ⟨0, by rw [q]; exact ⟨rfl, rfl⟩, by omega⟩
    · obtain ⟨y, e, h1, h2, h3, h4⟩ := zRch_ex x q hx2
      obtain ⟨v, h5, h6⟩ := zRch_all hW b y (by omega) (by omega)
      have hz := zor_m y (by omega) e h2
      have hp := hz.2.2.2 h3
      have h8 := (zpc_le x hx2).1
      subst h4
      refine ⟨v + W (zpc y) e, ?_, ?_⟩
      · rw [hp, zRch_s]
        exact ⟨y, v, e, h5, h2, h3, rfl, rfl⟩
      · have := hW (zpc y) e (by omega) h2
        omega
/-- at the end every set has its least -/
theorem zahl_end {W : Nat → Nat → Nat} (hW : ∀ k e : Nat, k < 8 → e < 8 → W k e ≤ 1000) {x : Nat} (hx : x < 256) : (∀ v : Nat, zRch W (zpc x) x v → zahl W 255 x ≤ v) ∧ ∃ v : Nat, zRch W (zpc x) x v ∧ zahl W 255 x = v := by
  have h1 : ∀ v : Nat, zRch W (zpc x) x v → zahl W 255 x ≤ v := fun v hv => by
    have := zahl_mono (W := W) (255 - x) x x (by omega)
    rw [show x + (255 - x) = 255 by omega] at this
    exact Int.le_trans this (zahl_x x x (by omega) (by omega) v hv)
  refine ⟨h1, ?_⟩
  obtain ⟨v, a, b⟩ := zRch_all hW x x (by omega) hx
  have := (zpc_le x hx).1
  rcases (zahl_g hW 255 (by omega) x hx).2 with q | q
  · have := h1 v a
    omega
  · exact q
/-- which digits a cue can have in books that fit -/
theorem zEx_iff {W : Nat → Nat → Nat} {n c q : Nat} (hW : ∀ k e : Nat, k < 8 → e < 8 → W k e ≤ 1000) (hn : n ≤ 7) (hc : c < 8) (hq : q < 8) : zEx W n 8 0 0 c q ↔ ∃ x : Nat, x < 256 ∧ zpc x = c ∧ zbt1 x q = false ∧ zahl W 255 x + W c q + zMn (fun k e => (W k e : Int)) (8 - zpc (x ||| 2 ^ q)) (x ||| 2 ^ q) < n := by
  constructor
  · intro h
    obtain ⟨-, x, u, h1, h2, h3⟩ := zEx_A hn hc 8 0 0 (by omega) (by omega) ⟨rfl, rfl⟩ h
    obtain ⟨a, b⟩ := zRch_m _ _ _ h1
    have hz := (zor_m x a q hq).2.2.2 h2
    refine ⟨x, a, b, h2, ?_⟩
    rw [← b] at h1
    have := (zahl_end hW a).1 u h1
    rw [hz, b, show 8 - (c + 1) = 7 - c by omega]
    omega
  · rintro ⟨x, a, b, h2, h3⟩
    obtain ⟨v, h4, h5⟩ := (zahl_end hW a).2
    have hz := (zor_m x a q hq).2.2.2 h2
    rw [hz, b, show 8 - (c + 1) = 7 - c by omega, h5] at h3
    rw [b] at h4
    exact zEx_C hn hc hq h4 h2 h3
