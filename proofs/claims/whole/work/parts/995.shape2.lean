/-- how many shapes lie below x -/
def zcn : Nat → Nat
  | 0 => 0
  | x + 1 => zcn x + (if ztot x ≤ 7 then 1 else 0)
theorem zcn_s (x : Nat) : zcn (x + 1) = zcn x + (if ztot x ≤ 7 then 1 else 0) := rfl
theorem zcn_le {x : Nat} : ∀ k : Nat, zcn x ≤ zcn (x + k)
  | 0 => Nat.le_refl _
  | k + 1 => by have := zcn_le (x := x) k; rw [← Nat.add_assoc, zcn_s]; omega
/-- the same, counted from a to a + k -/
def zcr (a : Nat) : Nat → Nat → Nat
  | 0, c => c
  | k + 1, c => zcr (a + 1) k (if ztot a ≤ 7 then c + 1 else c)
theorem zcr_e : ∀ k a c : Nat, c = zcn a → zcr a k c = zcn (a + k)
  | 0, a, c, h => h
  | k + 1, a, c, h => by
    unfold zcr
    rw [zcr_e k (a + 1) _ (by rw [zcn_s, h]; split <;> rfl), show a + 1 + k = a + (k + 1) by omega]
theorem zcn_1 : zcn 1024 = 204 := by
  have h : zcr 0 1024 0 = 204 := by decide +kernel
  rw [zcr_e 1024 0 0 rfl] at h
  exact h
theorem zcn_2 : zcn 2048 = 295 := by
  have h : zcr 1024 1024 204 = 295 := by decide +kernel
  rw [zcr_e 1024 1024 204 zcn_1.symm] at h
  exact h
theorem zcn_3 : zcn 3072 = 325 := by
  have h : zcr 2048 1024 295 = 325 := by decide +kernel
  rw [zcr_e 1024 2048 295 zcn_2.symm] at h
  exact h
theorem zcn_4 : zcn 4096 = 330 := by
  have h : zcr 3072 1024 325 = 330 := by decide +kernel
  rw [zcr_e 1024 3072 325 zcn_3.symm] at h
  exact h
theorem zcn_5 : zcn 5120 = 470 := by
  have h : zcr 4096 1024 330 = 470 := by decide +kernel
  rw [zcr_e 1024 4096 330 zcn_4.symm] at h
  exact h
theorem zcn_6 : zcn 6144 = 525 := by
  have h : zcr 5120 1024 470 = 525 := by decide +kernel
  rw [zcr_e 1024 5120 470 zcn_5.symm] at h
  exact h
theorem zcn_7 : zcn 7168 = 539 := by
  have h : zcr 6144 1024 525 = 539 := by decide +kernel
  rw [zcr_e 1024 6144 525 zcn_6.symm] at h
  exact h
theorem zcn_8 : zcn 8192 = 540 := by
  have h : zcr 7168 1024 539 = 540 := by decide +kernel
  rw [zcr_e 1024 7168 539 zcn_7.symm] at h
  exact h
theorem zcn_9 : zcn 9216 = 631 := by
  have h : zcr 8192 1024 540 = 631 := by decide +kernel
  rw [zcr_e 1024 8192 540 zcn_8.symm] at h
  exact h
theorem zcn_10 : zcn 10240 = 661 := by
  have h : zcr 9216 1024 631 = 661 := by decide +kernel
  rw [zcr_e 1024 9216 631 zcn_9.symm] at h
  exact h
theorem zcn_11 : zcn 11264 = 666 := by
  have h : zcr 10240 1024 661 = 666 := by decide +kernel
  rw [zcr_e 1024 10240 661 zcn_10.symm] at h
  exact h
theorem zcn_12 : zcn 12288 = 666 := by
  have h : zcr 11264 1024 666 = 666 := by decide +kernel
  rw [zcr_e 1024 11264 666 zcn_11.symm] at h
  exact h
theorem zcn_13 : zcn 13312 = 721 := by
  have h : zcr 12288 1024 666 = 721 := by decide +kernel
  rw [zcr_e 1024 12288 666 zcn_12.symm] at h
  exact h
theorem zcn_14 : zcn 14336 = 735 := by
  have h : zcr 13312 1024 721 = 735 := by decide +kernel
  rw [zcr_e 1024 13312 721 zcn_13.symm] at h
  exact h
theorem zcn_15 : zcn 15360 = 736 := by
  have h : zcr 14336 1024 735 = 736 := by decide +kernel
  rw [zcr_e 1024 14336 735 zcn_14.symm] at h
  exact h
theorem zcn_16 : zcn 16384 = 736 := by
  have h : zcr 15360 1024 736 = 736 := by decide +kernel
  rw [zcr_e 1024 15360 736 zcn_15.symm] at h
  exact h
theorem zcn_17 : zcn 17408 = 766 := by
  have h : zcr 16384 1024 736 = 766 := by decide +kernel
  rw [zcr_e 1024 16384 736 zcn_16.symm] at h
  exact h
theorem zcn_18 : zcn 18432 = 771 := by
  have h : zcr 17408 1024 766 = 771 := by decide +kernel
  rw [zcr_e 1024 17408 766 zcn_17.symm] at h
  exact h
theorem zcn_19 : zcn 19456 = 771 := by
  have h : zcr 18432 1024 771 = 771 := by decide +kernel
  rw [zcr_e 1024 18432 771 zcn_18.symm] at h
  exact h
theorem zcn_20 : zcn 20480 = 771 := by
  have h : zcr 19456 1024 771 = 771 := by decide +kernel
  rw [zcr_e 1024 19456 771 zcn_19.symm] at h
  exact h
theorem zcn_21 : zcn 21504 = 785 := by
  have h : zcr 20480 1024 771 = 785 := by decide +kernel
  rw [zcr_e 1024 20480 771 zcn_20.symm] at h
  exact h
theorem zcn_22 : zcn 22528 = 786 := by
  have h : zcr 21504 1024 785 = 786 := by decide +kernel
  rw [zcr_e 1024 21504 785 zcn_21.symm] at h
  exact h
theorem zcn_23 : zcn 23552 = 786 := by
  have h : zcr 22528 1024 786 = 786 := by decide +kernel
  rw [zcr_e 1024 22528 786 zcn_22.symm] at h
  exact h
theorem zcn_24 : zcn 24576 = 786 := by
  have h : zcr 23552 1024 786 = 786 := by decide +kernel
  rw [zcr_e 1024 23552 786 zcn_23.symm] at h
  exact h
theorem zcn_25 : zcn 25600 = 791 := by
  have h : zcr 24576 1024 786 = 791 := by decide +kernel
  rw [zcr_e 1024 24576 786 zcn_24.symm] at h
  exact h
theorem zcn_26 : zcn 26624 = 791 := by
  have h : zcr 25600 1024 791 = 791 := by decide +kernel
  rw [zcr_e 1024 25600 791 zcn_25.symm] at h
  exact h
theorem zcn_27 : zcn 27648 = 791 := by
  have h : zcr 26624 1024 791 = 791 := by decide +kernel
  rw [zcr_e 1024 26624 791 zcn_26.symm] at h
  exact h
theorem zcn_28 : zcn 28672 = 791 := by
  have h : zcr 27648 1024 791 = 791 := by decide +kernel
  rw [zcr_e 1024 27648 791 zcn_27.symm] at h
  exact h
theorem zcn_29 : zcn 29696 = 792 := by
  have h : zcr 28672 1024 791 = 792 := by decide +kernel
  rw [zcr_e 1024 28672 791 zcn_28.symm] at h
  exact h
theorem zcn_30 : zcn 30720 = 792 := by
  have h : zcr 29696 1024 792 = 792 := by decide +kernel
  rw [zcr_e 1024 29696 792 zcn_29.symm] at h
  exact h
theorem zcn_31 : zcn 31744 = 792 := by
  have h : zcr 30720 1024 792 = 792 := by decide +kernel
  rw [zcr_e 1024 30720 792 zcn_30.symm] at h
  exact h
theorem zcn_32 : zcn 32768 = 792 := by
  have h : zcr 31744 1024 792 = 792 := by decide +kernel
  rw [zcr_e 1024 31744 792 zcn_31.symm] at h
  exact h
theorem zcn_792 {x : Nat} (hx : x ≤ 32768) : zcn x ≤ 792 := by
  have h := zcn_le (x := x) (32768 - x)
  rw [show x + (32768 - x) = 32768 by omega, zcn_32] at h
  exact h
