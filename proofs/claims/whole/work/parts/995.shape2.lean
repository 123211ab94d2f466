/-- how many shapes of at most t rows lie below x -/
def zqt (t : Nat) : Nat → Nat
  | 0 => 0
  | x + 1 => zqt t x + (if ztot x ≤ t then 1 else 0)
def zqn (x : Nat) : Nat := zqt 7 x
theorem zqt_s (t x : Nat) : zqt t (x + 1) = zqt t x + (if ztot x ≤ t then 1 else 0) := rfl
theorem zqn_s (x : Nat) : zqn (x + 1) = zqn x + (if ztot x ≤ 7 then 1 else 0) := rfl
theorem zqn_le {x : Nat} : ∀ k : Nat, zqn x ≤ zqn (x + k)
  | 0 => Nat.le_refl _
  | k + 1 => by have := zqn_le (x := x) k; rw [← Nat.add_assoc, zqn_s]; omega
theorem zqt_8 {t X : Nat} (ht : t ≤ 7) (hX : X < 4096) : zqt t (8 * X + 8) = zqt t (8 * X) + (if ztot X ≤ t then t - ztot X + 1 else 0) := by
  have e : ∀ d : Nat, d < 8 → ztot (8 * X + d) = d + ztot X := by
    intro d hd
    rw [ztot_s (by omega), show (8 * X + d) % 8 = d by omega, show (8 * X + d) / 8 = X by omega]
  have e0 : ztot (8 * X) = 0 + ztot X := e 0 (by omega)
  rw [show 8 * X + 8 = 8 * X + 7 + 1 from rfl, zqt_s, show 8 * X + 7 = 8 * X + 6 + 1 from rfl, zqt_s, show 8 * X + 6 = 8 * X + 5 + 1 from rfl, zqt_s, show 8 * X + 5 = 8 * X + 4 + 1 from rfl, zqt_s, show 8 * X + 4 = 8 * X + 3 + 1 from rfl, zqt_s, show 8 * X + 3 = 8 * X + 2 + 1 from rfl, zqt_s, show 8 * X + 2 = 8 * X + 1 + 1 from rfl, zqt_s, zqt_s]
  rw [show 8 * X + 1 + 1 + 1 + 1 + 1 + 1 + 1 = 8 * X + 7 from rfl, show 8 * X + 1 + 1 + 1 + 1 + 1 + 1 = 8 * X + 6 from rfl, show 8 * X + 1 + 1 + 1 + 1 + 1 = 8 * X + 5 from rfl, show 8 * X + 1 + 1 + 1 + 1 = 8 * X + 4 from rfl, show 8 * X + 1 + 1 + 1 = 8 * X + 3 from rfl, show 8 * X + 1 + 1 = 8 * X + 2 from rfl, e0, e 1 (by omega), e 2 (by omega), e 3 (by omega), e 4 (by omega), e 5 (by omega), e 6 (by omega), e 7 (by omega)]
  generalize zqt t (8 * X) = z
  generalize ztot X = T
  clear e e0
  rcases Nat.lt_or_ge 7 T with q | q
  · rw [if_neg (by omega), if_neg (by omega), if_neg (by omega), if_neg (by omega), if_neg (by omega), if_neg (by omega), if_neg (by omega), if_neg (by omega), if_neg (by omega)]
  · have k : ∀ t : Nat, t < 8 → ∀ T : Nat, T < 8 → (if 0 + T ≤ t then 1 else 0) + (if 1 + T ≤ t then 1 else 0) + (if 2 + T ≤ t then 1 else 0) + (if 3 + T ≤ t then 1 else 0) + (if 4 + T ≤ t then 1 else 0) + (if 5 + T ≤ t then 1 else 0) + (if 6 + T ≤ t then 1 else 0) + (if 7 + T ≤ t then 1 else 0) = if T ≤ t then t - T + 1 else 0 := by decide
    rw [← k t (by omega) T (by omega)]
    omega
theorem zqt_r {t : Nat} (ht : t + 1 ≤ 7) : ∀ X : Nat, X ≤ 4096 → zqt (t + 1) (8 * X) = zqt t (8 * X) + zqt (t + 1) X
  | 0, _ => rfl
  | X + 1, h => by
    have ih := zqt_r ht X (by omega)
    rw [show 8 * (X + 1) = 8 * X + 8 by omega, zqt_8 ht (by omega), zqt_8 (by omega) (by omega), ih, zqt_s]
    by_cases q : ztot X ≤ t
    · rw [if_pos q, if_pos (by omega), if_pos (by omega)]; omega
    · by_cases q2 : ztot X ≤ t + 1
      · rw [if_neg q, if_pos q2, if_pos q2]; omega
      · rw [if_neg q, if_neg q2, if_neg q2]; omega
theorem zqt_z : ∀ X : Nat, X ≤ 4096 → zqt 0 (8 * X) = zqt 0 X
  | 0, _ => rfl
  | X + 1, h => by
    have ih := zqt_z X (by omega)
    rw [show 8 * (X + 1) = 8 * X + 8 by omega, zqt_8 (by omega) (by omega), ih, zqt_s]
    by_cases q : ztot X ≤ 0
    · rw [if_pos q, if_pos q]; omega
    · rw [if_neg q, if_neg q]
theorem zqt_r' {t u X Y a b c : Nat} (hu : u = t + 1) (hY : Y = 8 * X) (ht : u ≤ 7) (hX : X ≤ 4096) (ha : zqt t Y = a) (hb : zqt u X = b) (hc : c = a + b) : zqt u Y = c := by
  subst hu hY
  rw [zqt_r ht X hX, ha, hb, hc]
theorem zqt_z' {X Y a : Nat} (hY : Y = 8 * X) (hX : X ≤ 4096) (ha : zqt 0 X = a) : zqt 0 Y = a := by
  subst hY
  rw [zqt_z X hX, ha]
theorem zqt_0_0 : zqt 0 1 = 1 := by decide
theorem zqt_1_0 : zqt 1 1 = 1 := by decide
theorem zqt_2_0 : zqt 2 1 = 1 := by decide
theorem zqt_3_0 : zqt 3 1 = 1 := by decide
theorem zqt_4_0 : zqt 4 1 = 1 := by decide
theorem zqt_5_0 : zqt 5 1 = 1 := by decide
theorem zqt_6_0 : zqt 6 1 = 1 := by decide
theorem zqt_7_0 : zqt 7 1 = 1 := by decide
theorem zqt_0_1 : zqt 0 8 = 1 := zqt_z' (X := 1) rfl (by omega) zqt_0_0
theorem zqt_1_1 : zqt 1 8 = 2 := zqt_r' (t := 0) (X := 1) (a := 1) (b := 1) rfl rfl (by omega) (by omega) zqt_0_1 zqt_1_0 rfl
theorem zqt_2_1 : zqt 2 8 = 3 := zqt_r' (t := 1) (X := 1) (a := 2) (b := 1) rfl rfl (by omega) (by omega) zqt_1_1 zqt_2_0 rfl
theorem zqt_3_1 : zqt 3 8 = 4 := zqt_r' (t := 2) (X := 1) (a := 3) (b := 1) rfl rfl (by omega) (by omega) zqt_2_1 zqt_3_0 rfl
theorem zqt_4_1 : zqt 4 8 = 5 := zqt_r' (t := 3) (X := 1) (a := 4) (b := 1) rfl rfl (by omega) (by omega) zqt_3_1 zqt_4_0 rfl
theorem zqt_5_1 : zqt 5 8 = 6 := zqt_r' (t := 4) (X := 1) (a := 5) (b := 1) rfl rfl (by omega) (by omega) zqt_4_1 zqt_5_0 rfl
theorem zqt_6_1 : zqt 6 8 = 7 := zqt_r' (t := 5) (X := 1) (a := 6) (b := 1) rfl rfl (by omega) (by omega) zqt_5_1 zqt_6_0 rfl
theorem zqt_7_1 : zqt 7 8 = 8 := zqt_r' (t := 6) (X := 1) (a := 7) (b := 1) rfl rfl (by omega) (by omega) zqt_6_1 zqt_7_0 rfl
theorem zqt_0_2 : zqt 0 64 = 1 := zqt_z' (X := 8) rfl (by omega) zqt_0_1
theorem zqt_1_2 : zqt 1 64 = 3 := zqt_r' (t := 0) (X := 8) (a := 1) (b := 2) rfl rfl (by omega) (by omega) zqt_0_2 zqt_1_1 rfl
theorem zqt_2_2 : zqt 2 64 = 6 := zqt_r' (t := 1) (X := 8) (a := 3) (b := 3) rfl rfl (by omega) (by omega) zqt_1_2 zqt_2_1 rfl
theorem zqt_3_2 : zqt 3 64 = 10 := zqt_r' (t := 2) (X := 8) (a := 6) (b := 4) rfl rfl (by omega) (by omega) zqt_2_2 zqt_3_1 rfl
theorem zqt_4_2 : zqt 4 64 = 15 := zqt_r' (t := 3) (X := 8) (a := 10) (b := 5) rfl rfl (by omega) (by omega) zqt_3_2 zqt_4_1 rfl
theorem zqt_5_2 : zqt 5 64 = 21 := zqt_r' (t := 4) (X := 8) (a := 15) (b := 6) rfl rfl (by omega) (by omega) zqt_4_2 zqt_5_1 rfl
theorem zqt_6_2 : zqt 6 64 = 28 := zqt_r' (t := 5) (X := 8) (a := 21) (b := 7) rfl rfl (by omega) (by omega) zqt_5_2 zqt_6_1 rfl
theorem zqt_7_2 : zqt 7 64 = 36 := zqt_r' (t := 6) (X := 8) (a := 28) (b := 8) rfl rfl (by omega) (by omega) zqt_6_2 zqt_7_1 rfl
theorem zqt_0_3 : zqt 0 512 = 1 := zqt_z' (X := 64) rfl (by omega) zqt_0_2
theorem zqt_1_3 : zqt 1 512 = 4 := zqt_r' (t := 0) (X := 64) (a := 1) (b := 3) rfl rfl (by omega) (by omega) zqt_0_3 zqt_1_2 rfl
theorem zqt_2_3 : zqt 2 512 = 10 := zqt_r' (t := 1) (X := 64) (a := 4) (b := 6) rfl rfl (by omega) (by omega) zqt_1_3 zqt_2_2 rfl
theorem zqt_3_3 : zqt 3 512 = 20 := zqt_r' (t := 2) (X := 64) (a := 10) (b := 10) rfl rfl (by omega) (by omega) zqt_2_3 zqt_3_2 rfl
theorem zqt_4_3 : zqt 4 512 = 35 := zqt_r' (t := 3) (X := 64) (a := 20) (b := 15) rfl rfl (by omega) (by omega) zqt_3_3 zqt_4_2 rfl
theorem zqt_5_3 : zqt 5 512 = 56 := zqt_r' (t := 4) (X := 64) (a := 35) (b := 21) rfl rfl (by omega) (by omega) zqt_4_3 zqt_5_2 rfl
theorem zqt_6_3 : zqt 6 512 = 84 := zqt_r' (t := 5) (X := 64) (a := 56) (b := 28) rfl rfl (by omega) (by omega) zqt_5_3 zqt_6_2 rfl
theorem zqt_7_3 : zqt 7 512 = 120 := zqt_r' (t := 6) (X := 64) (a := 84) (b := 36) rfl rfl (by omega) (by omega) zqt_6_3 zqt_7_2 rfl
theorem zqt_0_4 : zqt 0 4096 = 1 := zqt_z' (X := 512) rfl (by omega) zqt_0_3
theorem zqt_1_4 : zqt 1 4096 = 5 := zqt_r' (t := 0) (X := 512) (a := 1) (b := 4) rfl rfl (by omega) (by omega) zqt_0_4 zqt_1_3 rfl
theorem zqt_2_4 : zqt 2 4096 = 15 := zqt_r' (t := 1) (X := 512) (a := 5) (b := 10) rfl rfl (by omega) (by omega) zqt_1_4 zqt_2_3 rfl
theorem zqt_3_4 : zqt 3 4096 = 35 := zqt_r' (t := 2) (X := 512) (a := 15) (b := 20) rfl rfl (by omega) (by omega) zqt_2_4 zqt_3_3 rfl
theorem zqt_4_4 : zqt 4 4096 = 70 := zqt_r' (t := 3) (X := 512) (a := 35) (b := 35) rfl rfl (by omega) (by omega) zqt_3_4 zqt_4_3 rfl
theorem zqt_5_4 : zqt 5 4096 = 126 := zqt_r' (t := 4) (X := 512) (a := 70) (b := 56) rfl rfl (by omega) (by omega) zqt_4_4 zqt_5_3 rfl
theorem zqt_6_4 : zqt 6 4096 = 210 := zqt_r' (t := 5) (X := 512) (a := 126) (b := 84) rfl rfl (by omega) (by omega) zqt_5_4 zqt_6_3 rfl
theorem zqt_7_4 : zqt 7 4096 = 330 := zqt_r' (t := 6) (X := 512) (a := 210) (b := 120) rfl rfl (by omega) (by omega) zqt_6_4 zqt_7_3 rfl
theorem zqt_0_5 : zqt 0 32768 = 1 := zqt_z' (X := 4096) rfl (by omega) zqt_0_4
theorem zqt_1_5 : zqt 1 32768 = 6 := zqt_r' (t := 0) (X := 4096) (a := 1) (b := 5) rfl rfl (by omega) (by omega) zqt_0_5 zqt_1_4 rfl
theorem zqt_2_5 : zqt 2 32768 = 21 := zqt_r' (t := 1) (X := 4096) (a := 6) (b := 15) rfl rfl (by omega) (by omega) zqt_1_5 zqt_2_4 rfl
theorem zqt_3_5 : zqt 3 32768 = 56 := zqt_r' (t := 2) (X := 4096) (a := 21) (b := 35) rfl rfl (by omega) (by omega) zqt_2_5 zqt_3_4 rfl
theorem zqt_4_5 : zqt 4 32768 = 126 := zqt_r' (t := 3) (X := 4096) (a := 56) (b := 70) rfl rfl (by omega) (by omega) zqt_3_5 zqt_4_4 rfl
theorem zqt_5_5 : zqt 5 32768 = 252 := zqt_r' (t := 4) (X := 4096) (a := 126) (b := 126) rfl rfl (by omega) (by omega) zqt_4_5 zqt_5_4 rfl
theorem zqt_6_5 : zqt 6 32768 = 462 := zqt_r' (t := 5) (X := 4096) (a := 252) (b := 210) rfl rfl (by omega) (by omega) zqt_5_5 zqt_6_4 rfl
theorem zqt_7_5 : zqt 7 32768 = 792 := zqt_r' (t := 6) (X := 4096) (a := 462) (b := 330) rfl rfl (by omega) (by omega) zqt_6_5 zqt_7_4 rfl
theorem zqn_32 : zqn 32768 = 792 := zqt_7_5
theorem zqn_4 : zqn 4096 = 330 := zqt_7_4
theorem zqn_792 {x : Nat} (hx : x ≤ 32768) : zqn x ≤ 792 := by
  have h := zqn_le (x := x) (32768 - x)
  rw [show x + (32768 - x) = 32768 by omega, zqn_32] at h
  exact h
