theorem ze_0_0 : zblk 0 0 = zB_0_0 := rfl
theorem zem_0 {xs : Nat → Int} {L d b1 b2 : Nat} {H : zH} {Q : zQ} {r0 : Option Nat} (h : zEV xs L d b1 b2 false 0 (zblk 0 0) [some (Sum.inr (Sum.inr r0))] [] H Q) : zEm xs L d b1 b2 0 [Sum.inr (Sum.inr r0)] H Q := ⟨Nat.le_of_ble_eq_true rfl, h⟩
theorem ze_1_0 : zblk 1 0 = zB_1_0 := rfl
theorem zem_1 {xs : Nat → Int} {L d b1 b2 : Nat} {H : zH} {Q : zQ} {r0 : Option Nat} (h : zEV xs L d b1 b2 false 1 (zblk 1 0) [some (Sum.inr (Sum.inr r0))] [] H Q) : zEm xs L d b1 b2 1 [Sum.inr (Sum.inr r0)] H Q := ⟨Nat.le_of_ble_eq_true rfl, h⟩
theorem ze_2_0 : zblk 2 0 = zB_2_0 := rfl
theorem zem_2 {xs : Nat → Int} {L d b1 b2 : Nat} {H : zH} {Q : zQ} {r0 : Option Nat} (h : zEV xs L d b1 b2 false 2 (zblk 2 0) [some (Sum.inr (Sum.inr r0))] [] H Q) : zEm xs L d b1 b2 2 [Sum.inr (Sum.inr r0)] H Q := ⟨Nat.le_of_ble_eq_true rfl, h⟩
theorem ze_3_0 : zblk 3 0 = zB_3_0 := rfl
theorem ze_3_5 : zblk 3 5 = zB_3_5 := rfl
theorem ze_3_20 : zblk 3 20 = zB_3_20 := rfl
theorem zem_3 {xs : Nat → Int} {L d b1 b2 : Nat} {H : zH} {Q : zQ} {x1 : Option Nat} {x2 : Int} (h : zEV xs L d b1 b2 false 3 (zblk 3 0) [some (Sum.inr (Sum.inr x1)), some (Sum.inl x2), none, none] [] H Q) : zEm xs L d b1 b2 3 [Sum.inr (Sum.inr x1), Sum.inl x2] H Q := ⟨Nat.le_of_ble_eq_true rfl, h⟩
theorem ze_4_0 : zblk 4 0 = zB_4_0 := rfl
theorem ze_4_80 : zblk 4 80 = zB_4_80 := rfl
theorem ze_4_99 : zblk 4 99 = zB_4_99 := rfl
theorem zem_4 {xs : Nat → Int} {L d b1 b2 : Nat} {H : zH} {Q : zQ} {r0 : Option Nat} (h : zEV xs L d b1 b2 false 4 (zblk 4 0) [some (Sum.inr (Sum.inr r0)), none] [] H Q) : zEm xs L d b1 b2 4 [Sum.inr (Sum.inr r0)] H Q := ⟨Nat.le_of_ble_eq_true rfl, h⟩
theorem ze_5_0 : zblk 5 0 = zB_5_0 := rfl
theorem zem_5 {xs : Nat → Int} {L d b1 b2 : Nat} {H : zH} {Q : zQ} {r0 : Option Nat} (h : zEV xs L d b1 b2 false 5 (zblk 5 0) [some (Sum.inr (Sum.inr r0))] [] H Q) : zEm xs L d b1 b2 5 [Sum.inr (Sum.inr r0)] H Q := ⟨Nat.le_of_ble_eq_true rfl, h⟩
theorem ze_6_0 : zblk 6 0 = zB_6_0 := rfl
theorem ze_6_88 : zblk 6 88 = zB_6_88 := rfl
theorem ze_6_131 : zblk 6 131 = zB_6_131 := rfl
theorem zem_6 {xs : Nat → Int} {L d b1 b2 : Nat} {H : zH} {Q : zQ} {r0 : Option Nat} (h : zEV xs L d b1 b2 false 6 (zblk 6 0) [some (Sum.inr (Sum.inr r0)), none] [] H Q) : zEm xs L d b1 b2 6 [Sum.inr (Sum.inr r0)] H Q := ⟨Nat.le_of_ble_eq_true rfl, h⟩
theorem ze_7_0 : zblk 7 0 = zB_7_0 := rfl
theorem zem_7 {xs : Nat → Int} {L d b1 b2 : Nat} {H : zH} {Q : zQ} {r0 : Option Nat} {x1 : Int} (h : zEV xs L d b1 b2 false 7 (zblk 7 0) [some (Sum.inr (Sum.inr r0)), some (Sum.inl x1)] [] H Q) : zEm xs L d b1 b2 7 [Sum.inr (Sum.inr r0), Sum.inl x1] H Q := ⟨Nat.le_of_ble_eq_true rfl, h⟩
theorem ze_8_0 : zblk 8 0 = zB_8_0 := rfl
theorem zem_8 {xs : Nat → Int} {L d b1 b2 : Nat} {H : zH} {Q : zQ} {r0 : Option Nat} (h : zEV xs L d b1 b2 false 8 (zblk 8 0) [some (Sum.inr (Sum.inr r0))] [] H Q) : zEm xs L d b1 b2 8 [Sum.inr (Sum.inr r0)] H Q := ⟨Nat.le_of_ble_eq_true rfl, h⟩
theorem ze_9_0 : zblk 9 0 = zB_9_0 := rfl
theorem zem_9 {xs : Nat → Int} {L d b1 b2 : Nat} {H : zH} {Q : zQ} {r0 : Option Nat} (h : zEV xs L d b1 b2 false 9 (zblk 9 0) [some (Sum.inr (Sum.inr r0))] [] H Q) : zEm xs L d b1 b2 9 [Sum.inr (Sum.inr r0)] H Q := ⟨Nat.le_of_ble_eq_true rfl, h⟩
theorem ze_10_0 : zblk 10 0 = zB_10_0 := rfl
theorem zem_10 {xs : Nat → Int} {L d b1 b2 : Nat} {H : zH} {Q : zQ} {r0 : Option Nat} (h : zEV xs L d b1 b2 false 10 (zblk 10 0) [some (Sum.inr (Sum.inr r0))] [] H Q) : zEm xs L d b1 b2 10 [Sum.inr (Sum.inr r0)] H Q := ⟨Nat.le_of_ble_eq_true rfl, h⟩
theorem ze_11_0 : zblk 11 0 = zB_11_0 := rfl
theorem zem_11 {xs : Nat → Int} {L d b1 b2 : Nat} {H : zH} {Q : zQ} {r0 : Option Nat} (h : zEV xs L d b1 b2 false 11 (zblk 11 0) [some (Sum.inr (Sum.inr r0))] [] H Q) : zEm xs L d b1 b2 11 [Sum.inr (Sum.inr r0)] H Q := ⟨Nat.le_of_ble_eq_true rfl, h⟩
theorem ze_12_0 : zblk 12 0 = zB_12_0 := rfl
theorem zem_12 {xs : Nat → Int} {L d b1 b2 : Nat} {H : zH} {Q : zQ} {r0 : Option Nat} (h : zEV xs L d b1 b2 false 12 (zblk 12 0) [some (Sum.inr (Sum.inr r0))] [] H Q) : zEm xs L d b1 b2 12 [Sum.inr (Sum.inr r0)] H Q := ⟨Nat.le_of_ble_eq_true rfl, h⟩
theorem ze_13_0 : zblk 13 0 = zB_13_0 := rfl
theorem zem_13 {xs : Nat → Int} {L d b1 b2 : Nat} {H : zH} {Q : zQ} {r0 : Option Nat} {x1 : Int} {x2 : Int} {x3 : Int} {x4 : Int} {x5 : Int} (h : zEV xs L d b1 b2 false 13 (zblk 13 0) [some (Sum.inr (Sum.inr r0)), some (Sum.inl x1), some (Sum.inl x2), some (Sum.inl x3), some (Sum.inl x4), some (Sum.inl x5)] [] H Q) : zEm xs L d b1 b2 13 [Sum.inr (Sum.inr r0), Sum.inl x1, Sum.inl x2, Sum.inl x3, Sum.inl x4, Sum.inl x5] H Q := ⟨Nat.le_of_ble_eq_true rfl, h⟩
theorem ze_14_0 : zblk 14 0 = zB_14_0 := rfl
theorem ze_14_13 : zblk 14 13 = zB_14_13 := rfl
theorem zem_14 {xs : Nat → Int} {L d b1 b2 : Nat} {H : zH} {Q : zQ} {r0 : Option Nat} {x1 : Int} {x2 : Int} {x3 : Int} {x4 : Int} {x5 : Int} (h : zEV xs L d b1 b2 false 14 (zblk 14 0) [some (Sum.inr (Sum.inr r0)), some (Sum.inl x1), some (Sum.inl x2), some (Sum.inl x3), some (Sum.inl x4), some (Sum.inl x5)] [] H Q) : zEm xs L d b1 b2 14 [Sum.inr (Sum.inr r0), Sum.inl x1, Sum.inl x2, Sum.inl x3, Sum.inl x4, Sum.inl x5] H Q := ⟨Nat.le_of_ble_eq_true rfl, h⟩
theorem ze_15_0 : zblk 15 0 = zB_15_0 := rfl
theorem ze_15_3 : zblk 15 3 = zB_15_3 := rfl
theorem ze_15_39 : zblk 15 39 = zB_15_39 := rfl
theorem zem_15 {xs : Nat → Int} {L d b1 b2 : Nat} {H : zH} {Q : zQ} {r0 : Option Nat} {x1 : Int} (h : zEV xs L d b1 b2 false 15 (zblk 15 0) [some (Sum.inr (Sum.inr r0)), some (Sum.inl x1), none] [] H Q) : zEm xs L d b1 b2 15 [Sum.inr (Sum.inr r0), Sum.inl x1] H Q := ⟨Nat.le_of_ble_eq_true rfl, h⟩
theorem ze_16_0 : zblk 16 0 = zB_16_0 := rfl
theorem zem_16 {xs : Nat → Int} {L d b1 b2 : Nat} {H : zH} {Q : zQ} {r0 : Option Nat} {x1 : Int} (h : zEV xs L d b1 b2 false 16 (zblk 16 0) [some (Sum.inr (Sum.inr r0)), some (Sum.inl x1)] [] H Q) : zEm xs L d b1 b2 16 [Sum.inr (Sum.inr r0), Sum.inl x1] H Q := ⟨Nat.le_of_ble_eq_true rfl, h⟩
theorem ze_17_0 : zblk 17 0 = zB_17_0 := rfl
theorem ze_17_12 : zblk 17 12 = zB_17_12 := rfl
theorem ze_17_14 : zblk 17 14 = zB_17_14 := rfl
theorem zem_17 {xs : Nat → Int} {L d b1 b2 : Nat} {H : zH} {Q : zQ} {r0 : Option Nat} {x1 : Int} (h : zEV xs L d b1 b2 false 17 (zblk 17 0) [some (Sum.inr (Sum.inr r0)), some (Sum.inl x1)] [] H Q) : zEm xs L d b1 b2 17 [Sum.inr (Sum.inr r0), Sum.inl x1] H Q := ⟨Nat.le_of_ble_eq_true rfl, h⟩
theorem ze_18_0 : zblk 18 0 = zB_18_0 := rfl
theorem zem_18 {xs : Nat → Int} {L d b1 b2 : Nat} {H : zH} {Q : zQ} {r0 : Option Nat} {x1 : Int} (h : zEV xs L d b1 b2 false 18 (zblk 18 0) [some (Sum.inr (Sum.inr r0)), some (Sum.inl x1), none] [] H Q) : zEm xs L d b1 b2 18 [Sum.inr (Sum.inr r0), Sum.inl x1] H Q := ⟨Nat.le_of_ble_eq_true rfl, h⟩
theorem ze_19_0 : zblk 19 0 = zB_19_0 := rfl
theorem ze_19_10 : zblk 19 10 = zB_19_10 := rfl
theorem ze_19_13 : zblk 19 13 = zB_19_13 := rfl
theorem ze_19_24 : zblk 19 24 = zB_19_24 := rfl
theorem ze_19_50 : zblk 19 50 = zB_19_50 := rfl
theorem zem_19 {xs : Nat → Int} {L d b1 b2 : Nat} {H : zH} {Q : zQ} {r0 : Option Nat} {x1 : Int} {x2 : Option Nat} (h : zEV xs L d b1 b2 false 19 (zblk 19 0) [some (Sum.inr (Sum.inr r0)), some (Sum.inl x1), some (Sum.inr (Sum.inr x2)), none] [] H Q) : zEm xs L d b1 b2 19 [Sum.inr (Sum.inr r0), Sum.inl x1, Sum.inr (Sum.inr x2)] H Q := ⟨Nat.le_of_ble_eq_true rfl, h⟩
theorem ze_20_0 : zblk 20 0 = zB_20_0 := rfl
theorem ze_20_16 : zblk 20 16 = zB_20_16 := rfl
theorem ze_20_18 : zblk 20 18 = zB_20_18 := rfl
theorem ze_20_20 : zblk 20 20 = zB_20_20 := rfl
theorem ze_20_50 : zblk 20 50 = zB_20_50 := rfl
theorem ze_20_52 : zblk 20 52 = zB_20_52 := rfl
theorem ze_20_58 : zblk 20 58 = zB_20_58 := rfl
theorem zem_20 {xs : Nat → Int} {L d b1 b2 : Nat} {H : zH} {Q : zQ} {r0 : Option Nat} {x1 : Int} (h : zEV xs L d b1 b2 false 20 (zblk 20 0) [some (Sum.inr (Sum.inr r0)), some (Sum.inl x1), none] [] H Q) : zEm xs L d b1 b2 20 [Sum.inr (Sum.inr r0), Sum.inl x1] H Q := ⟨Nat.le_of_ble_eq_true rfl, h⟩
theorem ze_21_0 : zblk 21 0 = zB_21_0 := rfl
theorem ze_21_3 : zblk 21 3 = zB_21_3 := rfl
theorem ze_21_39 : zblk 21 39 = zB_21_39 := rfl
theorem ze_21_45 : zblk 21 45 = zB_21_45 := rfl
theorem zem_21 {xs : Nat → Int} {L d b1 b2 : Nat} {H : zH} {Q : zQ} {r0 : Option Nat} {x1 : Option Nat} {x2 : Int} {x3 : Int} (h : zEV xs L d b1 b2 false 21 (zblk 21 0) [some (Sum.inr (Sum.inr r0)), some (Sum.inr (Sum.inr x1)), some (Sum.inl x2), some (Sum.inl x3), none] [] H Q) : zEm xs L d b1 b2 21 [Sum.inr (Sum.inr r0), Sum.inr (Sum.inr x1), Sum.inl x2, Sum.inl x3] H Q := ⟨Nat.le_of_ble_eq_true rfl, h⟩
theorem ze_22_0 : zblk 22 0 = zB_22_0 := rfl
theorem ze_22_3 : zblk 22 3 = zB_22_3 := rfl
theorem ze_22_37 : zblk 22 37 = zB_22_37 := rfl
theorem ze_22_43 : zblk 22 43 = zB_22_43 := rfl
theorem zem_22 {xs : Nat → Int} {L d b1 b2 : Nat} {H : zH} {Q : zQ} {r0 : Option Nat} {x1 : Int} {x2 : Option Nat} {x3 : Int} (h : zEV xs L d b1 b2 false 22 (zblk 22 0) [some (Sum.inr (Sum.inr r0)), some (Sum.inl x1), some (Sum.inr (Sum.inr x2)), some (Sum.inl x3), none] [] H Q) : zEm xs L d b1 b2 22 [Sum.inr (Sum.inr r0), Sum.inl x1, Sum.inr (Sum.inr x2), Sum.inl x3] H Q := ⟨Nat.le_of_ble_eq_true rfl, h⟩
theorem ze_23_0 : zblk 23 0 = zB_23_0 := rfl
theorem zem_23 {xs : Nat → Int} {L d b1 b2 : Nat} {H : zH} {Q : zQ} {r0 : Option Nat} (h : zEV xs L d b1 b2 false 23 (zblk 23 0) [some (Sum.inr (Sum.inr r0))] [] H Q) : zEm xs L d b1 b2 23 [Sum.inr (Sum.inr r0)] H Q := ⟨Nat.le_of_ble_eq_true rfl, h⟩
theorem ze_24_0 : zblk 24 0 = zB_24_0 := rfl
theorem zem_24 {xs : Nat → Int} {L d b1 b2 : Nat} {H : zH} {Q : zQ} {r0 : Option Nat} {x1 : Int} {x2 : Int} (h : zEV xs L d b1 b2 false 24 (zblk 24 0) [some (Sum.inr (Sum.inr r0)), some (Sum.inl x1), some (Sum.inl x2)] [] H Q) : zEm xs L d b1 b2 24 [Sum.inr (Sum.inr r0), Sum.inl x1, Sum.inl x2] H Q := ⟨Nat.le_of_ble_eq_true rfl, h⟩
theorem ze_25_0 : zblk 25 0 = zB_25_0 := rfl
theorem ze_25_24 : zblk 25 24 = zB_25_24 := rfl
theorem ze_25_26 : zblk 25 26 = zB_25_26 := rfl
theorem zem_25 {xs : Nat → Int} {L d b1 b2 : Nat} {H : zH} {Q : zQ} {r0 : Option Nat} {x1 : Int} {x2 : Int} (h : zEV xs L d b1 b2 false 25 (zblk 25 0) [some (Sum.inr (Sum.inr r0)), some (Sum.inl x1), some (Sum.inl x2)] [] H Q) : zEm xs L d b1 b2 25 [Sum.inr (Sum.inr r0), Sum.inl x1, Sum.inl x2] H Q := ⟨Nat.le_of_ble_eq_true rfl, h⟩
theorem ze_26_0 : zblk 26 0 = zB_26_0 := rfl
theorem zem_26 {xs : Nat → Int} {L d b1 b2 : Nat} {H : zH} {Q : zQ} {r0 : Option Nat} {x1 : Int} {x2 : Int} {x3 : Int} (h : zEV xs L d b1 b2 false 26 (zblk 26 0) [some (Sum.inr (Sum.inr r0)), some (Sum.inl x1), some (Sum.inl x2), some (Sum.inl x3)] [] H Q) : zEm xs L d b1 b2 26 [Sum.inr (Sum.inr r0), Sum.inl x1, Sum.inl x2, Sum.inl x3] H Q := ⟨Nat.le_of_ble_eq_true rfl, h⟩
theorem ze_27_0 : zblk 27 0 = zB_27_0 := rfl
theorem ze_27_20 : zblk 27 20 = zB_27_20 := rfl
theorem ze_27_23 : zblk 27 23 = zB_27_23 := rfl
theorem ze_27_59 : zblk 27 59 = zB_27_59 := rfl
theorem ze_27_60 : zblk 27 60 = zB_27_60 := rfl
theorem zem_27 {xs : Nat → Int} {L d b1 b2 : Nat} {H : zH} {Q : zQ} {r0 : Option Nat} {x1 : Int} {x2 : Int} {x3 : Int} (h : zEV xs L d b1 b2 false 27 (zblk 27 0) [some (Sum.inr (Sum.inr r0)), some (Sum.inl x1), some (Sum.inl x2), some (Sum.inl x3), none] [] H Q) : zEm xs L d b1 b2 27 [Sum.inr (Sum.inr r0), Sum.inl x1, Sum.inl x2, Sum.inl x3] H Q := ⟨Nat.le_of_ble_eq_true rfl, h⟩
theorem ze_28_0 : zblk 28 0 = zB_28_0 := rfl
theorem ze_28_12 : zblk 28 12 = zB_28_12 := rfl
theorem ze_28_19 : zblk 28 19 = zB_28_19 := rfl
theorem zem_28 {xs : Nat → Int} {L d b1 b2 : Nat} {H : zH} {Q : zQ} {x1 : Int} {x2 : Int} {x3 : Int} (h : zEV xs L d b1 b2 false 28 (zblk 28 0) [some (Sum.inl x1), some (Sum.inl x2), some (Sum.inl x3)] [] H Q) : zEm xs L d b1 b2 28 [Sum.inl x1, Sum.inl x2, Sum.inl x3] H Q := ⟨Nat.le_of_ble_eq_true rfl, h⟩
theorem ze_29_0 : zblk 29 0 = zB_29_0 := rfl
theorem zem_29 {xs : Nat → Int} {L d b1 b2 : Nat} {H : zH} {Q : zQ} {r0 : Option Nat} {x1 : Int} {x2 : Int} (h : zEV xs L d b1 b2 false 29 (zblk 29 0) [some (Sum.inr (Sum.inr r0)), some (Sum.inl x1), some (Sum.inl x2)] [] H Q) : zEm xs L d b1 b2 29 [Sum.inr (Sum.inr r0), Sum.inl x1, Sum.inl x2] H Q := ⟨Nat.le_of_ble_eq_true rfl, h⟩
theorem ze_30_0 : zblk 30 0 = zB_30_0 := rfl
theorem ze_30_10 : zblk 30 10 = zB_30_10 := rfl
theorem ze_30_13 : zblk 30 13 = zB_30_13 := rfl
theorem ze_30_40 : zblk 30 40 = zB_30_40 := rfl
theorem ze_30_41 : zblk 30 41 = zB_30_41 := rfl
theorem zem_30 {xs : Nat → Int} {L d b1 b2 : Nat} {H : zH} {Q : zQ} {r0 : Option Nat} {x1 : Int} {x2 : Int} (h : zEV xs L d b1 b2 false 30 (zblk 30 0) [some (Sum.inr (Sum.inr r0)), some (Sum.inl x1), some (Sum.inl x2), none] [] H Q) : zEm xs L d b1 b2 30 [Sum.inr (Sum.inr r0), Sum.inl x1, Sum.inl x2] H Q := ⟨Nat.le_of_ble_eq_true rfl, h⟩
theorem ze_31_0 : zblk 31 0 = zB_31_0 := rfl
theorem ze_31_25 : zblk 31 25 = zB_31_25 := rfl
theorem zem_31 {xs : Nat → Int} {L d b1 b2 : Nat} {H : zH} {Q : zQ} {r0 : Option Nat} (h : zEV xs L d b1 b2 false 31 (zblk 31 0) [some (Sum.inr (Sum.inr r0)), none] [] H Q) : zEm xs L d b1 b2 31 [Sum.inr (Sum.inr r0)] H Q := ⟨Nat.le_of_ble_eq_true rfl, h⟩
theorem ze_32_0 : zblk 32 0 = zB_32_0 := rfl
theorem ze_32_11 : zblk 32 11 = zB_32_11 := rfl
theorem ze_32_15 : zblk 32 15 = zB_32_15 := rfl
theorem ze_32_41 : zblk 32 41 = zB_32_41 := rfl
theorem ze_32_43 : zblk 32 43 = zB_32_43 := rfl
theorem ze_32_55 : zblk 32 55 = zB_32_55 := rfl
theorem ze_32_66 : zblk 32 66 = zB_32_66 := rfl
theorem ze_32_67 : zblk 32 67 = zB_32_67 := rfl
theorem zem_32 {xs : Nat → Int} {L d b1 b2 : Nat} {H : zH} {Q : zQ} {r0 : Option Nat} (h : zEV xs L d b1 b2 false 32 (zblk 32 0) [some (Sum.inr (Sum.inr r0)), none, none, none] [] H Q) : zEm xs L d b1 b2 32 [Sum.inr (Sum.inr r0)] H Q := ⟨Nat.le_of_ble_eq_true rfl, h⟩
theorem ze_33_0 : zblk 33 0 = zB_33_0 := rfl
theorem ze_33_2 : zblk 33 2 = zB_33_2 := rfl
theorem ze_33_29 : zblk 33 29 = zB_33_29 := rfl
theorem zem_33 {xs : Nat → Int} {L d b1 b2 : Nat} {H : zH} {Q : zQ} {r0 : Option Nat} {x1 : Option Nat} (h : zEV xs L d b1 b2 false 33 (zblk 33 0) [some (Sum.inr (Sum.inr r0)), some (Sum.inr (Sum.inr x1)), none] [] H Q) : zEm xs L d b1 b2 33 [Sum.inr (Sum.inr r0), Sum.inr (Sum.inr x1)] H Q := ⟨Nat.le_of_ble_eq_true rfl, h⟩
theorem ze_34_0 : zblk 34 0 = zB_34_0 := rfl
theorem ze_34_10 : zblk 34 10 = zB_34_10 := rfl
theorem ze_34_15 : zblk 34 15 = zB_34_15 := rfl
theorem ze_34_24 : zblk 34 24 = zB_34_24 := rfl
theorem zem_34 {xs : Nat → Int} {L d b1 b2 : Nat} {H : zH} {Q : zQ} {r0 : Option Nat} {x1 : Int} (h : zEV xs L d b1 b2 false 34 (zblk 34 0) [some (Sum.inr (Sum.inr r0)), some (Sum.inl x1)] [] H Q) : zEm xs L d b1 b2 34 [Sum.inr (Sum.inr r0), Sum.inl x1] H Q := ⟨Nat.le_of_ble_eq_true rfl, h⟩
theorem ze_35_0 : zblk 35 0 = zB_35_0 := rfl
theorem ze_35_24 : zblk 35 24 = zB_35_24 := rfl
theorem zem_35 {xs : Nat → Int} {L d b1 b2 : Nat} {H : zH} {Q : zQ} {r0 : Option Nat} (h : zEV xs L d b1 b2 false 35 (zblk 35 0) [some (Sum.inr (Sum.inr r0)), none] [] H Q) : zEm xs L d b1 b2 35 [Sum.inr (Sum.inr r0)] H Q := ⟨Nat.le_of_ble_eq_true rfl, h⟩
theorem ze_36_0 : zblk 36 0 = zB_36_0 := rfl
theorem ze_36_9 : zblk 36 9 = zB_36_9 := rfl
theorem ze_36_42 : zblk 36 42 = zB_36_42 := rfl
theorem ze_36_44 : zblk 36 44 = zB_36_44 := rfl
theorem ze_36_66 : zblk 36 66 = zB_36_66 := rfl
theorem ze_36_82 : zblk 36 82 = zB_36_82 := rfl
theorem ze_36_83 : zblk 36 83 = zB_36_83 := rfl
theorem ze_36_124 : zblk 36 124 = zB_36_124 := rfl
theorem ze_36_144 : zblk 36 144 = zB_36_144 := rfl
theorem ze_36_153 : zblk 36 153 = zB_36_153 := rfl
theorem zem_36 {xs : Nat → Int} {L d b1 b2 : Nat} {H : zH} {Q : zQ} {r0 : Option Nat} (h : zEV xs L d b1 b2 false 36 (zblk 36 0) [some (Sum.inr (Sum.inr r0)), none, none, none, none] [] H Q) : zEm xs L d b1 b2 36 [Sum.inr (Sum.inr r0)] H Q := ⟨Nat.le_of_ble_eq_true rfl, h⟩
theorem ze_37_0 : zblk 37 0 = zB_37_0 := rfl
theorem ze_37_7 : zblk 37 7 = zB_37_7 := rfl
theorem ze_37_60 : zblk 37 60 = zB_37_60 := rfl
theorem ze_37_66 : zblk 37 66 = zB_37_66 := rfl
theorem zem_37 {xs : Nat → Int} {L d b1 b2 : Nat} {H : zH} {Q : zQ} {r0 : Option Nat} {x1 : Option Nat} (h : zEV xs L d b1 b2 false 37 (zblk 37 0) [some (Sum.inr (Sum.inr r0)), some (Sum.inr (Sum.inr x1)), none, none] [] H Q) : zEm xs L d b1 b2 37 [Sum.inr (Sum.inr r0), Sum.inr (Sum.inr x1)] H Q := ⟨Nat.le_of_ble_eq_true rfl, h⟩
theorem ze_38_0 : zblk 38 0 = zB_38_0 := rfl
theorem ze_38_12 : zblk 38 12 = zB_38_12 := rfl
theorem ze_38_45 : zblk 38 45 = zB_38_45 := rfl
theorem ze_38_89 : zblk 38 89 = zB_38_89 := rfl
theorem zem_38 {xs : Nat → Int} {L d b1 b2 : Nat} {H : zH} {Q : zQ} {r0 : Option Nat} {x1 : Int} (h : zEV xs L d b1 b2 false 38 (zblk 38 0) [some (Sum.inr (Sum.inr r0)), some (Sum.inl x1)] [] H Q) : zEm xs L d b1 b2 38 [Sum.inr (Sum.inr r0), Sum.inl x1] H Q := ⟨Nat.le_of_ble_eq_true rfl, h⟩
theorem ze_39_0 : zblk 39 0 = zB_39_0 := rfl
theorem ze_39_9 : zblk 39 9 = zB_39_9 := rfl
theorem ze_39_28 : zblk 39 28 = zB_39_28 := rfl
theorem ze_39_29 : zblk 39 29 = zB_39_29 := rfl
theorem zem_39 {xs : Nat → Int} {L d b1 b2 : Nat} {H : zH} {Q : zQ} {r0 : Option Nat} (h : zEV xs L d b1 b2 false 39 (zblk 39 0) [some (Sum.inr (Sum.inr r0))] [] H Q) : zEm xs L d b1 b2 39 [Sum.inr (Sum.inr r0)] H Q := ⟨Nat.le_of_ble_eq_true rfl, h⟩
theorem ze_40_0 : zblk 40 0 = zB_40_0 := rfl
theorem ze_40_19 : zblk 40 19 = zB_40_19 := rfl
theorem ze_40_21 : zblk 40 21 = zB_40_21 := rfl
theorem ze_40_47 : zblk 40 47 = zB_40_47 := rfl
theorem ze_40_53 : zblk 40 53 = zB_40_53 := rfl
theorem zem_40 {xs : Nat → Int} {L d b1 b2 : Nat} {H : zH} {Q : zQ} {r0 : Option Nat} {x1 : Option Nat} {x2 : Int} (h : zEV xs L d b1 b2 false 40 (zblk 40 0) [some (Sum.inr (Sum.inr r0)), some (Sum.inr (Sum.inr x1)), some (Sum.inl x2), none] [] H Q) : zEm xs L d b1 b2 40 [Sum.inr (Sum.inr r0), Sum.inr (Sum.inr x1), Sum.inl x2] H Q := ⟨Nat.le_of_ble_eq_true rfl, h⟩
theorem ze_41_0 : zblk 41 0 = zB_41_0 := rfl
theorem zem_41 {xs : Nat → Int} {L d b1 b2 : Nat} {H : zH} {Q : zQ} {r0 : Option Nat} {x1 : Int} (h : zEV xs L d b1 b2 false 41 (zblk 41 0) [some (Sum.inr (Sum.inr r0)), some (Sum.inl x1)] [] H Q) : zEm xs L d b1 b2 41 [Sum.inr (Sum.inr r0), Sum.inl x1] H Q := ⟨Nat.le_of_ble_eq_true rfl, h⟩
theorem ze_42_0 : zblk 42 0 = zB_42_0 := rfl
theorem ze_42_12 : zblk 42 12 = zB_42_12 := rfl
theorem ze_42_15 : zblk 42 15 = zB_42_15 := rfl
theorem ze_42_27 : zblk 42 27 = zB_42_27 := rfl
theorem zem_42 {xs : Nat → Int} {L d b1 b2 : Nat} {H : zH} {Q : zQ} {r0 : Option Nat} {x1 : Int} (h : zEV xs L d b1 b2 false 42 (zblk 42 0) [some (Sum.inr (Sum.inr r0)), some (Sum.inl x1)] [] H Q) : zEm xs L d b1 b2 42 [Sum.inr (Sum.inr r0), Sum.inl x1] H Q := ⟨Nat.le_of_ble_eq_true rfl, h⟩
theorem ze_43_0 : zblk 43 0 = zB_43_0 := rfl
theorem zem_43 {xs : Nat → Int} {L d b1 b2 : Nat} {H : zH} {Q : zQ} {r0 : Option Nat} {x1 : Int} (h : zEV xs L d b1 b2 false 43 (zblk 43 0) [some (Sum.inr (Sum.inr r0)), some (Sum.inl x1), none] [] H Q) : zEm xs L d b1 b2 43 [Sum.inr (Sum.inr r0), Sum.inl x1] H Q := ⟨Nat.le_of_ble_eq_true rfl, h⟩
theorem ze_44_0 : zblk 44 0 = zB_44_0 := rfl
theorem ze_44_12 : zblk 44 12 = zB_44_12 := rfl
theorem ze_44_15 : zblk 44 15 = zB_44_15 := rfl
theorem ze_44_32 : zblk 44 32 = zB_44_32 := rfl
theorem ze_44_41 : zblk 44 41 = zB_44_41 := rfl
theorem ze_44_49 : zblk 44 49 = zB_44_49 := rfl
theorem ze_44_62 : zblk 44 62 = zB_44_62 := rfl
theorem zem_44 {xs : Nat → Int} {L d b1 b2 : Nat} {H : zH} {Q : zQ} {r0 : Option Nat} {x1 : Int} {x2 : Option Nat} {x3 : Option Nat} (h : zEV xs L d b1 b2 false 44 (zblk 44 0) [some (Sum.inr (Sum.inr r0)), some (Sum.inl x1), some (Sum.inr (Sum.inr x2)), some (Sum.inr (Sum.inr x3)), none, none] [] H Q) : zEm xs L d b1 b2 44 [Sum.inr (Sum.inr r0), Sum.inl x1, Sum.inr (Sum.inr x2), Sum.inr (Sum.inr x3)] H Q := ⟨Nat.le_of_ble_eq_true rfl, h⟩
theorem ze_45_0 : zblk 45 0 = zB_45_0 := rfl
theorem ze_45_18 : zblk 45 18 = zB_45_18 := rfl
theorem ze_45_20 : zblk 45 20 = zB_45_20 := rfl
theorem ze_45_22 : zblk 45 22 = zB_45_22 := rfl
theorem ze_45_50 : zblk 45 50 = zB_45_50 := rfl
theorem ze_45_52 : zblk 45 52 = zB_45_52 := rfl
theorem ze_45_62 : zblk 45 62 = zB_45_62 := rfl
theorem zem_45 {xs : Nat → Int} {L d b1 b2 : Nat} {H : zH} {Q : zQ} {r0 : Option Nat} {x1 : Option Nat} (h : zEV xs L d b1 b2 false 45 (zblk 45 0) [some (Sum.inr (Sum.inr r0)), some (Sum.inr (Sum.inr x1)), none, none] [] H Q) : zEm xs L d b1 b2 45 [Sum.inr (Sum.inr r0), Sum.inr (Sum.inr x1)] H Q := ⟨Nat.le_of_ble_eq_true rfl, h⟩
theorem ze_46_0 : zblk 46 0 = zB_46_0 := rfl
theorem ze_46_14 : zblk 46 14 = zB_46_14 := rfl
theorem ze_46_20 : zblk 46 20 = zB_46_20 := rfl
theorem ze_46_83 : zblk 46 83 = zB_46_83 := rfl
theorem ze_46_86 : zblk 46 86 = zB_46_86 := rfl
theorem ze_46_92 : zblk 46 92 = zB_46_92 := rfl
theorem zem_46 {xs : Nat → Int} {L d b1 b2 : Nat} {H : zH} {Q : zQ} {r0 : Option Nat} {x1 : Int} {x2 : Int} {x3 : Option Nat} (h : zEV xs L d b1 b2 false 46 (zblk 46 0) [some (Sum.inr (Sum.inr r0)), some (Sum.inl x1), some (Sum.inl x2), some (Sum.inr (Sum.inr x3)), none, none, none] [] H Q) : zEm xs L d b1 b2 46 [Sum.inr (Sum.inr r0), Sum.inl x1, Sum.inl x2, Sum.inr (Sum.inr x3)] H Q := ⟨Nat.le_of_ble_eq_true rfl, h⟩
theorem ze_47_0 : zblk 47 0 = zB_47_0 := rfl
theorem ze_47_3 : zblk 47 3 = zB_47_3 := rfl
theorem ze_47_34 : zblk 47 34 = zB_47_34 := rfl
theorem zem_47 {xs : Nat → Int} {L d b1 b2 : Nat} {H : zH} {Q : zQ} {r0 : Option Nat} {x1 : Int} {x2 : Option Nat} {x3 : Int} (h : zEV xs L d b1 b2 false 47 (zblk 47 0) [some (Sum.inr (Sum.inr r0)), some (Sum.inl x1), some (Sum.inr (Sum.inr x2)), some (Sum.inl x3), none] [] H Q) : zEm xs L d b1 b2 47 [Sum.inr (Sum.inr r0), Sum.inl x1, Sum.inr (Sum.inr x2), Sum.inl x3] H Q := ⟨Nat.le_of_ble_eq_true rfl, h⟩
theorem ze_48_0 : zblk 48 0 = zB_48_0 := rfl
theorem zem_48 {xs : Nat → Int} {L d b1 b2 : Nat} {H : zH} {Q : zQ} {r0 : Option Nat} {x1 : Int} {x2 : Int} (h : zEV xs L d b1 b2 false 48 (zblk 48 0) [some (Sum.inr (Sum.inr r0)), some (Sum.inl x1), some (Sum.inl x2)] [] H Q) : zEm xs L d b1 b2 48 [Sum.inr (Sum.inr r0), Sum.inl x1, Sum.inl x2] H Q := ⟨Nat.le_of_ble_eq_true rfl, h⟩
theorem ze_49_0 : zblk 49 0 = zB_49_0 := rfl
theorem ze_49_12 : zblk 49 12 = zB_49_12 := rfl
theorem ze_49_14 : zblk 49 14 = zB_49_14 := rfl
theorem ze_49_25 : zblk 49 25 = zB_49_25 := rfl
theorem ze_49_37 : zblk 49 37 = zB_49_37 := rfl
theorem ze_49_55 : zblk 49 55 = zB_49_55 := rfl
theorem ze_49_60 : zblk 49 60 = zB_49_60 := rfl
theorem ze_49_61 : zblk 49 61 = zB_49_61 := rfl
theorem ze_49_95 : zblk 49 95 = zB_49_95 := rfl
theorem zem_49 {xs : Nat → Int} {L d b1 b2 : Nat} {H : zH} {Q : zQ} {r0 : Option Nat} {x1 : Int} {x2 : Int} (h : zEV xs L d b1 b2 false 49 (zblk 49 0) [some (Sum.inr (Sum.inr r0)), some (Sum.inl x1), some (Sum.inl x2)] [] H Q) : zEm xs L d b1 b2 49 [Sum.inr (Sum.inr r0), Sum.inl x1, Sum.inl x2] H Q := ⟨Nat.le_of_ble_eq_true rfl, h⟩
theorem ze_50_0 : zblk 50 0 = zB_50_0 := rfl
theorem ze_50_12 : zblk 50 12 = zB_50_12 := rfl
theorem ze_50_21 : zblk 50 21 = zB_50_21 := rfl
theorem ze_50_49 : zblk 50 49 = zB_50_49 := rfl
theorem ze_50_50 : zblk 50 50 = zB_50_50 := rfl
theorem ze_50_76 : zblk 50 76 = zB_50_76 := rfl
theorem ze_50_82 : zblk 50 82 = zB_50_82 := rfl
theorem ze_50_88 : zblk 50 88 = zB_50_88 := rfl
theorem zem_50 {xs : Nat → Int} {L d b1 b2 : Nat} {H : zH} {Q : zQ} {r0 : Option Nat} {x1 : Int} (h : zEV xs L d b1 b2 false 50 (zblk 50 0) [some (Sum.inr (Sum.inr r0)), some (Sum.inl x1), none, none, none, none, none] [] H Q) : zEm xs L d b1 b2 50 [Sum.inr (Sum.inr r0), Sum.inl x1] H Q := ⟨Nat.le_of_ble_eq_true rfl, h⟩
theorem ze_51_0 : zblk 51 0 = zB_51_0 := rfl
theorem ze_51_6 : zblk 51 6 = zB_51_6 := rfl
theorem ze_51_48 : zblk 51 48 = zB_51_48 := rfl
theorem ze_51_65 : zblk 51 65 = zB_51_65 := rfl
theorem ze_51_71 : zblk 51 71 = zB_51_71 := rfl
theorem zem_51 {xs : Nat → Int} {L d b1 b2 : Nat} {H : zH} {Q : zQ} {r0 : Option Nat} {x1 : Int} {x2 : Int} {x3 : Int} (h : zEV xs L d b1 b2 false 51 (zblk 51 0) [some (Sum.inr (Sum.inr r0)), some (Sum.inl x1), some (Sum.inl x2), some (Sum.inl x3), none, none] [] H Q) : zEm xs L d b1 b2 51 [Sum.inr (Sum.inr r0), Sum.inl x1, Sum.inl x2, Sum.inl x3] H Q := ⟨Nat.le_of_ble_eq_true rfl, h⟩
theorem ze_52_0 : zblk 52 0 = zB_52_0 := rfl
theorem ze_52_5 : zblk 52 5 = zB_52_5 := rfl
theorem ze_52_36 : zblk 52 36 = zB_52_36 := rfl
theorem ze_52_58 : zblk 52 58 = zB_52_58 := rfl
theorem ze_52_64 : zblk 52 64 = zB_52_64 := rfl
theorem zem_52 {xs : Nat → Int} {L d b1 b2 : Nat} {H : zH} {Q : zQ} {r0 : Option Nat} {x1 : Int} {x2 : Int} (h : zEV xs L d b1 b2 false 52 (zblk 52 0) [some (Sum.inr (Sum.inr r0)), some (Sum.inl x1), some (Sum.inl x2), none, none] [] H Q) : zEm xs L d b1 b2 52 [Sum.inr (Sum.inr r0), Sum.inl x1, Sum.inl x2] H Q := ⟨Nat.le_of_ble_eq_true rfl, h⟩
theorem ze_53_0 : zblk 53 0 = zB_53_0 := rfl
theorem ze_53_34 : zblk 53 34 = zB_53_34 := rfl
theorem ze_53_35 : zblk 53 35 = zB_53_35 := rfl
theorem zem_53 {xs : Nat → Int} {L d b1 b2 : Nat} {H : zH} {Q : zQ} {r0 : Option Nat} {x1 : Int} {x2 : Option Nat} {x3 : Int} (h : zEV xs L d b1 b2 false 53 (zblk 53 0) [some (Sum.inr (Sum.inr r0)), some (Sum.inl x1), some (Sum.inr (Sum.inr x2)), some (Sum.inl x3)] [] H Q) : zEm xs L d b1 b2 53 [Sum.inr (Sum.inr r0), Sum.inl x1, Sum.inr (Sum.inr x2), Sum.inl x3] H Q := ⟨Nat.le_of_ble_eq_true rfl, h⟩
theorem ze_54_0 : zblk 54 0 = zB_54_0 := rfl
theorem ze_54_27 : zblk 54 27 = zB_54_27 := rfl
theorem ze_54_29 : zblk 54 29 = zB_54_29 := rfl
theorem ze_54_57 : zblk 54 57 = zB_54_57 := rfl
theorem ze_54_69 : zblk 54 69 = zB_54_69 := rfl
theorem ze_54_71 : zblk 54 71 = zB_54_71 := rfl
theorem ze_54_77 : zblk 54 77 = zB_54_77 := rfl
theorem ze_54_107 : zblk 54 107 = zB_54_107 := rfl
theorem ze_54_113 : zblk 54 113 = zB_54_113 := rfl
theorem zem_54 {xs : Nat → Int} {L d b1 b2 : Nat} {H : zH} {Q : zQ} {r0 : Option Nat} {x1 : Int} {x2 : Option Nat} {x3 : Int} (h : zEV xs L d b1 b2 false 54 (zblk 54 0) [some (Sum.inr (Sum.inr r0)), some (Sum.inl x1), some (Sum.inr (Sum.inr x2)), some (Sum.inl x3), none, none, none, none, none] [] H Q) : zEm xs L d b1 b2 54 [Sum.inr (Sum.inr r0), Sum.inl x1, Sum.inr (Sum.inr x2), Sum.inl x3] H Q := ⟨Nat.le_of_ble_eq_true rfl, h⟩
theorem ze_55_0 : zblk 55 0 = zB_55_0 := rfl
theorem ze_55_4 : zblk 55 4 = zB_55_4 := rfl
theorem ze_55_45 : zblk 55 45 = zB_55_45 := rfl
theorem zem_55 {xs : Nat → Int} {L d b1 b2 : Nat} {H : zH} {Q : zQ} {r0 : Option Nat} (h : zEV xs L d b1 b2 false 55 (zblk 55 0) [some (Sum.inr (Sum.inr r0)), none, none, none] [] H Q) : zEm xs L d b1 b2 55 [Sum.inr (Sum.inr r0)] H Q := ⟨Nat.le_of_ble_eq_true rfl, h⟩
theorem ze_56_0 : zblk 56 0 = zB_56_0 := rfl
theorem zem_56 {xs : Nat → Int} {L d b1 b2 : Nat} {H : zH} {Q : zQ} {r0 : Option Nat} (h : zEV xs L d b1 b2 false 56 (zblk 56 0) [some (Sum.inr (Sum.inr r0))] [] H Q) : zEm xs L d b1 b2 56 [Sum.inr (Sum.inr r0)] H Q := ⟨Nat.le_of_ble_eq_true rfl, h⟩
theorem ze_57_0 : zblk 57 0 = zB_57_0 := rfl
theorem ze_57_2 : zblk 57 2 = zB_57_2 := rfl
theorem ze_57_28 : zblk 57 28 = zB_57_28 := rfl
theorem ze_57_34 : zblk 57 34 = zB_57_34 := rfl
theorem zem_57 {xs : Nat → Int} {L d b1 b2 : Nat} {H : zH} {Q : zQ} {r0 : Option Nat} {x1 : Option Nat} (h : zEV xs L d b1 b2 false 57 (zblk 57 0) [some (Sum.inr (Sum.inr r0)), some (Sum.inr (Sum.inr x1)), none] [] H Q) : zEm xs L d b1 b2 57 [Sum.inr (Sum.inr r0), Sum.inr (Sum.inr x1)] H Q := ⟨Nat.le_of_ble_eq_true rfl, h⟩
theorem ze_58_0 : zblk 58 0 = zB_58_0 := rfl
theorem zem_58 {xs : Nat → Int} {L d b1 b2 : Nat} {H : zH} {Q : zQ} {r0 : Option Nat} (h : zEV xs L d b1 b2 false 58 (zblk 58 0) [some (Sum.inr (Sum.inr r0))] [] H Q) : zEm xs L d b1 b2 58 [Sum.inr (Sum.inr r0)] H Q := ⟨Nat.le_of_ble_eq_true rfl, h⟩
theorem ze_59_0 : zblk 59 0 = zB_59_0 := rfl
theorem ze_59_18 : zblk 59 18 = zB_59_18 := rfl
theorem ze_59_20 : zblk 59 20 = zB_59_20 := rfl
theorem ze_59_23 : zblk 59 23 = zB_59_23 := rfl
theorem ze_59_66 : zblk 59 66 = zB_59_66 := rfl
theorem ze_59_73 : zblk 59 73 = zB_59_73 := rfl
theorem ze_59_79 : zblk 59 79 = zB_59_79 := rfl
theorem zem_59 {xs : Nat → Int} {L d b1 b2 : Nat} {H : zH} {Q : zQ} {r0 : Option Nat} {x1 : Option Nat} (h : zEV xs L d b1 b2 false 59 (zblk 59 0) [some (Sum.inr (Sum.inr r0)), some (Sum.inr (Sum.inr x1)), none, none, none] [] H Q) : zEm xs L d b1 b2 59 [Sum.inr (Sum.inr r0), Sum.inr (Sum.inr x1)] H Q := ⟨Nat.le_of_ble_eq_true rfl, h⟩
theorem ze_60_0 : zblk 60 0 = zB_60_0 := rfl
theorem ze_60_22 : zblk 60 22 = zB_60_22 := rfl
theorem ze_60_25 : zblk 60 25 = zB_60_25 := rfl
theorem ze_60_72 : zblk 60 72 = zB_60_72 := rfl
theorem zem_60 {xs : Nat → Int} {L d b1 b2 : Nat} {H : zH} {Q : zQ} {r0 : Option Nat} {x1 : Int} (h : zEV xs L d b1 b2 false 60 (zblk 60 0) [some (Sum.inr (Sum.inr r0)), some (Sum.inl x1), none] [] H Q) : zEm xs L d b1 b2 60 [Sum.inr (Sum.inr r0), Sum.inl x1] H Q := ⟨Nat.le_of_ble_eq_true rfl, h⟩
theorem ze_61_0 : zblk 61 0 = zB_61_0 := rfl
theorem ze_61_10 : zblk 61 10 = zB_61_10 := rfl
theorem ze_61_35 : zblk 61 35 = zB_61_35 := rfl
theorem ze_61_44 : zblk 61 44 = zB_61_44 := rfl
theorem ze_61_51 : zblk 61 51 = zB_61_51 := rfl
theorem ze_61_71 : zblk 61 71 = zB_61_71 := rfl
theorem ze_61_73 : zblk 61 73 = zB_61_73 := rfl
theorem ze_61_89 : zblk 61 89 = zB_61_89 := rfl
theorem zem_61 {xs : Nat → Int} {L d b1 b2 : Nat} {H : zH} {Q : zQ} {r0 : Option Nat} {x1 : Option Nat} (h : zEV xs L d b1 b2 false 61 (zblk 61 0) [some (Sum.inr (Sum.inr r0)), some (Sum.inr (Sum.inr x1)), none, none] [] H Q) : zEm xs L d b1 b2 61 [Sum.inr (Sum.inr r0), Sum.inr (Sum.inr x1)] H Q := ⟨Nat.le_of_ble_eq_true rfl, h⟩
theorem ze_62_0 : zblk 62 0 = zB_62_0 := rfl
theorem zem_62 {xs : Nat → Int} {L d b1 b2 : Nat} {H : zH} {Q : zQ} {r0 : Option Nat} (h : zEV xs L d b1 b2 false 62 (zblk 62 0) [some (Sum.inr (Sum.inr r0))] [] H Q) : zEm xs L d b1 b2 62 [Sum.inr (Sum.inr r0)] H Q := ⟨Nat.le_of_ble_eq_true rfl, h⟩
theorem ze_63_0 : zblk 63 0 = zB_63_0 := rfl
theorem ze_63_10 : zblk 63 10 = zB_63_10 := rfl
theorem ze_63_27 : zblk 63 27 = zB_63_27 := rfl
theorem zem_63 {xs : Nat → Int} {L d b1 b2 : Nat} {H : zH} {Q : zQ} {x1 : Option Nat} {x2 : Int} {x3 : Int} {x4 : Int} (h : zEV xs L d b1 b2 false 63 (zblk 63 0) [some (Sum.inr (Sum.inr x1)), some (Sum.inl x2), some (Sum.inl x3), some (Sum.inl x4), none] [] H Q) : zEm xs L d b1 b2 63 [Sum.inr (Sum.inr x1), Sum.inl x2, Sum.inl x3, Sum.inl x4] H Q := ⟨Nat.le_of_ble_eq_true rfl, h⟩
theorem ze_64_0 : zblk 64 0 = zB_64_0 := rfl
theorem ze_64_46 : zblk 64 46 = zB_64_46 := rfl
theorem ze_64_59 : zblk 64 59 = zB_64_59 := rfl
theorem ze_64_73 : zblk 64 73 = zB_64_73 := rfl
theorem zem_64 {xs : Nat → Int} {L d b1 b2 : Nat} {H : zH} {Q : zQ} {x1 : Int} {x2 : Int} {x3 : Int} (h : zEV xs L d b1 b2 false 64 (zblk 64 0) [some (Sum.inl x1), some (Sum.inl x2), some (Sum.inl x3)] [] H Q) : zEm xs L d b1 b2 64 [Sum.inl x1, Sum.inl x2, Sum.inl x3] H Q := ⟨Nat.le_of_ble_eq_true rfl, h⟩
theorem ze_65_0 : zblk 65 0 = zB_65_0 := rfl
theorem ze_65_2 : zblk 65 2 = zB_65_2 := rfl
theorem ze_65_36 : zblk 65 36 = zB_65_36 := rfl
theorem ze_65_59 : zblk 65 59 = zB_65_59 := rfl
theorem ze_65_65 : zblk 65 65 = zB_65_65 := rfl
theorem ze_65_67 : zblk 65 67 = zB_65_67 := rfl
theorem ze_65_104 : zblk 65 104 = zB_65_104 := rfl
theorem zem_65 {xs : Nat → Int} {L d b1 b2 : Nat} {H : zH} {Q : zQ} {r0 : Option Nat} {x1 : Option Nat} (h : zEV xs L d b1 b2 false 65 (zblk 65 0) [some (Sum.inr (Sum.inr r0)), some (Sum.inr (Sum.inr x1)), none, none] [] H Q) : zEm xs L d b1 b2 65 [Sum.inr (Sum.inr r0), Sum.inr (Sum.inr x1)] H Q := ⟨Nat.le_of_ble_eq_true rfl, h⟩
theorem ze_66_0 : zblk 66 0 = zB_66_0 := rfl
theorem ze_66_2 : zblk 66 2 = zB_66_2 := rfl
theorem ze_66_32 : zblk 66 32 = zB_66_32 := rfl
theorem zem_66 {xs : Nat → Int} {L d b1 b2 : Nat} {H : zH} {Q : zQ} {x1 : Int} {x2 : Option Nat} (h : zEV xs L d b1 b2 false 66 (zblk 66 0) [some (Sum.inl x1), some (Sum.inr (Sum.inr x2)), none] [] H Q) : zEm xs L d b1 b2 66 [Sum.inl x1, Sum.inr (Sum.inr x2)] H Q := ⟨Nat.le_of_ble_eq_true rfl, h⟩
theorem ze_67_0 : zblk 67 0 = zB_67_0 := rfl
theorem zem_67 {xs : Nat → Int} {L d b1 b2 : Nat} {H : zH} {Q : zQ} {r0 : Option Nat} {x1 : Option Nat} (h : zEV xs L d b1 b2 false 67 (zblk 67 0) [some (Sum.inr (Sum.inr r0)), some (Sum.inr (Sum.inr x1)), none] [] H Q) : zEm xs L d b1 b2 67 [Sum.inr (Sum.inr r0), Sum.inr (Sum.inr x1)] H Q := ⟨Nat.le_of_ble_eq_true rfl, h⟩
theorem ze_68_0 : zblk 68 0 = zB_68_0 := rfl
theorem ze_68_9 : zblk 68 9 = zB_68_9 := rfl
theorem ze_68_62 : zblk 68 62 = zB_68_62 := rfl
theorem ze_68_68 : zblk 68 68 = zB_68_68 := rfl
theorem zem_68 {xs : Nat → Int} {L d b1 b2 : Nat} {H : zH} {Q : zQ} {r0 : Option Nat} {x1 : Int} (h : zEV xs L d b1 b2 false 68 (zblk 68 0) [some (Sum.inr (Sum.inr r0)), some (Sum.inl x1), none, none] [] H Q) : zEm xs L d b1 b2 68 [Sum.inr (Sum.inr r0), Sum.inl x1] H Q := ⟨Nat.le_of_ble_eq_true rfl, h⟩
theorem ze_69_0 : zblk 69 0 = zB_69_0 := rfl
theorem ze_69_6 : zblk 69 6 = zB_69_6 := rfl
theorem ze_69_25 : zblk 69 25 = zB_69_25 := rfl
theorem ze_69_56 : zblk 69 56 = zB_69_56 := rfl
theorem ze_69_62 : zblk 69 62 = zB_69_62 := rfl
theorem ze_69_74 : zblk 69 74 = zB_69_74 := rfl
theorem ze_69_100 : zblk 69 100 = zB_69_100 := rfl
theorem zem_69 {xs : Nat → Int} {L d b1 b2 : Nat} {H : zH} {Q : zQ} {r0 : Option Nat} {x1 : Option Nat} {x2 : Option Nat} {x3 : Option Nat} (h : zEV xs L d b1 b2 false 69 (zblk 69 0) [some (Sum.inr (Sum.inr r0)), some (Sum.inr (Sum.inr x1)), some (Sum.inr (Sum.inr x2)), some (Sum.inr (Sum.inr x3)), none, none, none] [] H Q) : zEm xs L d b1 b2 69 [Sum.inr (Sum.inr r0), Sum.inr (Sum.inr x1), Sum.inr (Sum.inr x2), Sum.inr (Sum.inr x3)] H Q := ⟨Nat.le_of_ble_eq_true rfl, h⟩
theorem ze_70_0 : zblk 70 0 = zB_70_0 := rfl
theorem ze_70_12 : zblk 70 12 = zB_70_12 := rfl
theorem ze_70_34 : zblk 70 34 = zB_70_34 := rfl
theorem ze_70_125 : zblk 70 125 = zB_70_125 := rfl
theorem ze_70_131 : zblk 70 131 = zB_70_131 := rfl
theorem ze_70_137 : zblk 70 137 = zB_70_137 := rfl
theorem zem_70 {xs : Nat → Int} {L d b1 b2 : Nat} {H : zH} {Q : zQ} {r0 : Option Nat} {x1 : Option Nat} {x2 : Int} {x3 : Option Nat} {x4 : Int} {x5 : Option Nat} {x6 : Int} (h : zEV xs L d b1 b2 false 70 (zblk 70 0) [some (Sum.inr (Sum.inr r0)), some (Sum.inr (Sum.inr x1)), some (Sum.inl x2), some (Sum.inr (Sum.inr x3)), some (Sum.inl x4), some (Sum.inr (Sum.inr x5)), some (Sum.inl x6), none, none, none, none, none, none] [] H Q) : zEm xs L d b1 b2 70 [Sum.inr (Sum.inr r0), Sum.inr (Sum.inr x1), Sum.inl x2, Sum.inr (Sum.inr x3), Sum.inl x4, Sum.inr (Sum.inr x5), Sum.inl x6] H Q := ⟨Nat.le_of_ble_eq_true rfl, h⟩
theorem ze_71_0 : zblk 71 0 = zB_71_0 := rfl
theorem ze_71_4 : zblk 71 4 = zB_71_4 := rfl
theorem ze_71_32 : zblk 71 32 = zB_71_32 := rfl
theorem ze_71_40 : zblk 71 40 = zB_71_40 := rfl
theorem ze_71_86 : zblk 71 86 = zB_71_86 := rfl
theorem ze_71_92 : zblk 71 92 = zB_71_92 := rfl
theorem zem_71 {xs : Nat → Int} {L d b1 b2 : Nat} {H : zH} {Q : zQ} {r0 : Option Nat} {x1 : Option Nat} (h : zEV xs L d b1 b2 false 71 (zblk 71 0) [some (Sum.inr (Sum.inr r0)), some (Sum.inr (Sum.inr x1)), none, none, none] [] H Q) : zEm xs L d b1 b2 71 [Sum.inr (Sum.inr r0), Sum.inr (Sum.inr x1)] H Q := ⟨Nat.le_of_ble_eq_true rfl, h⟩
theorem ze_72_0 : zblk 72 0 = zB_72_0 := rfl
theorem zem_72 {xs : Nat → Int} {L d b1 b2 : Nat} {H : zH} {Q : zQ} {r0 : Option Nat} {x1 : Option Nat} {x2 : Int} (h : zEV xs L d b1 b2 false 72 (zblk 72 0) [some (Sum.inr (Sum.inr r0)), some (Sum.inr (Sum.inr x1)), some (Sum.inl x2)] [] H Q) : zEm xs L d b1 b2 72 [Sum.inr (Sum.inr r0), Sum.inr (Sum.inr x1), Sum.inl x2] H Q := ⟨Nat.le_of_ble_eq_true rfl, h⟩
theorem ze_73_0 : zblk 73 0 = zB_73_0 := rfl
theorem ze_73_17 : zblk 73 17 = zB_73_17 := rfl
theorem ze_73_72 : zblk 73 72 = zB_73_72 := rfl
theorem ze_73_89 : zblk 73 89 = zB_73_89 := rfl
theorem ze_73_95 : zblk 73 95 = zB_73_95 := rfl
theorem zem_73 {xs : Nat → Int} {L d b1 b2 : Nat} {H : zH} {Q : zQ} {r0 : Option Nat} {x1 : Int} (h : zEV xs L d b1 b2 false 73 (zblk 73 0) [some (Sum.inr (Sum.inr r0)), some (Sum.inl x1), none, none, none] [] H Q) : zEm xs L d b1 b2 73 [Sum.inr (Sum.inr r0), Sum.inl x1] H Q := ⟨Nat.le_of_ble_eq_true rfl, h⟩
theorem ze_74_0 : zblk 74 0 = zB_74_0 := rfl
theorem ze_74_2 : zblk 74 2 = zB_74_2 := rfl
theorem ze_74_9 : zblk 74 9 = zB_74_9 := rfl
theorem ze_74_55 : zblk 74 55 = zB_74_55 := rfl
theorem ze_74_68 : zblk 74 68 = zB_74_68 := rfl
theorem zem_74 {xs : Nat → Int} {L d b1 b2 : Nat} {H : zH} {Q : zQ} {r0 : Option Nat} {x1 : Int} (h : zEV xs L d b1 b2 false 74 (zblk 74 0) [some (Sum.inr (Sum.inr r0)), some (Sum.inl x1), none, none] [] H Q) : zEm xs L d b1 b2 74 [Sum.inr (Sum.inr r0), Sum.inl x1] H Q := ⟨Nat.le_of_ble_eq_true rfl, h⟩
theorem ze_75_0 : zblk 75 0 = zB_75_0 := rfl
theorem ze_75_8 : zblk 75 8 = zB_75_8 := rfl
theorem ze_75_28 : zblk 75 28 = zB_75_28 := rfl
theorem ze_75_83 : zblk 75 83 = zB_75_83 := rfl
theorem ze_75_89 : zblk 75 89 = zB_75_89 := rfl
theorem zem_75 {xs : Nat → Int} {L d b1 b2 : Nat} {H : zH} {Q : zQ} {r0 : Option Nat} {x1 : Int} {x2 : Int} (h : zEV xs L d b1 b2 false 75 (zblk 75 0) [some (Sum.inr (Sum.inr r0)), some (Sum.inl x1), some (Sum.inl x2), none, none, none, none] [] H Q) : zEm xs L d b1 b2 75 [Sum.inr (Sum.inr r0), Sum.inl x1, Sum.inl x2] H Q := ⟨Nat.le_of_ble_eq_true rfl, h⟩
theorem ze_76_0 : zblk 76 0 = zB_76_0 := rfl
theorem ze_76_2 : zblk 76 2 = zB_76_2 := rfl
theorem ze_76_41 : zblk 76 41 = zB_76_41 := rfl
theorem ze_76_42 : zblk 76 42 = zB_76_42 := rfl
theorem ze_76_43 : zblk 76 43 = zB_76_43 := rfl
theorem ze_76_49 : zblk 76 49 = zB_76_49 := rfl
theorem zem_76 {xs : Nat → Int} {L d b1 b2 : Nat} {H : zH} {Q : zQ} {r0 : Option Nat} {x1 : Int} (h : zEV xs L d b1 b2 false 76 (zblk 76 0) [some (Sum.inr (Sum.inr r0)), some (Sum.inl x1), none] [] H Q) : zEm xs L d b1 b2 76 [Sum.inr (Sum.inr r0), Sum.inl x1] H Q := ⟨Nat.le_of_ble_eq_true rfl, h⟩
theorem ze_77_0 : zblk 77 0 = zB_77_0 := rfl
theorem zem_77 {xs : Nat → Int} {L d b1 b2 : Nat} {H : zH} {Q : zQ} {r0 : Option Nat} {x1 : Int} (h : zEV xs L d b1 b2 false 77 (zblk 77 0) [some (Sum.inr (Sum.inr r0)), some (Sum.inl x1)] [] H Q) : zEm xs L d b1 b2 77 [Sum.inr (Sum.inr r0), Sum.inl x1] H Q := ⟨Nat.le_of_ble_eq_true rfl, h⟩
theorem ze_78_0 : zblk 78 0 = zB_78_0 := rfl
theorem ze_78_15 : zblk 78 15 = zB_78_15 := rfl
theorem ze_78_19 : zblk 78 19 = zB_78_19 := rfl
theorem ze_78_28 : zblk 78 28 = zB_78_28 := rfl
theorem zem_78 {xs : Nat → Int} {L d b1 b2 : Nat} {H : zH} {Q : zQ} {r0 : Option Nat} {x1 : Int} (h : zEV xs L d b1 b2 false 78 (zblk 78 0) [some (Sum.inr (Sum.inr r0)), some (Sum.inl x1)] [] H Q) : zEm xs L d b1 b2 78 [Sum.inr (Sum.inr r0), Sum.inl x1] H Q := ⟨Nat.le_of_ble_eq_true rfl, h⟩
theorem ze_79_0 : zblk 79 0 = zB_79_0 := rfl
theorem zem_79 {xs : Nat → Int} {L d b1 b2 : Nat} {H : zH} {Q : zQ} {r0 : Option Nat} (h : zEV xs L d b1 b2 false 79 (zblk 79 0) [some (Sum.inr (Sum.inr r0)), none] [] H Q) : zEm xs L d b1 b2 79 [Sum.inr (Sum.inr r0)] H Q := ⟨Nat.le_of_ble_eq_true rfl, h⟩
theorem ze_80_0 : zblk 80 0 = zB_80_0 := rfl
theorem ze_80_38 : zblk 80 38 = zB_80_38 := rfl
theorem ze_80_40 : zblk 80 40 = zB_80_40 := rfl
theorem ze_80_42 : zblk 80 42 = zB_80_42 := rfl
theorem ze_80_97 : zblk 80 97 = zB_80_97 := rfl
theorem ze_80_99 : zblk 80 99 = zB_80_99 := rfl
theorem ze_80_105 : zblk 80 105 = zB_80_105 := rfl
theorem ze_80_117 : zblk 80 117 = zB_80_117 := rfl
theorem ze_80_119 : zblk 80 119 = zB_80_119 := rfl
theorem ze_80_157 : zblk 80 157 = zB_80_157 := rfl
theorem zem_80 {xs : Nat → Int} {L d b1 b2 : Nat} {H : zH} {Q : zQ} {r0 : Option Nat} {x1 : Option Nat} (h : zEV xs L d b1 b2 false 80 (zblk 80 0) [some (Sum.inr (Sum.inr r0)), some (Sum.inr (Sum.inr x1)), none, none, none, none] [] H Q) : zEm xs L d b1 b2 80 [Sum.inr (Sum.inr r0), Sum.inr (Sum.inr x1)] H Q := ⟨Nat.le_of_ble_eq_true rfl, h⟩
theorem ze_81_0 : zblk 81 0 = zB_81_0 := rfl
theorem zem_81 {xs : Nat → Int} {L d b1 b2 : Nat} {H : zH} {Q : zQ} {r0 : Option Nat} {x1 : Int} {x2 : Int} {x3 : Int} (h : zEV xs L d b1 b2 false 81 (zblk 81 0) [some (Sum.inr (Sum.inr r0)), some (Sum.inl x1), some (Sum.inl x2), some (Sum.inl x3)] [] H Q) : zEm xs L d b1 b2 81 [Sum.inr (Sum.inr r0), Sum.inl x1, Sum.inl x2, Sum.inl x3] H Q := ⟨Nat.le_of_ble_eq_true rfl, h⟩
theorem ze_82_0 : zblk 82 0 = zB_82_0 := rfl
theorem zem_82 {xs : Nat → Int} {L d b1 b2 : Nat} {H : zH} {Q : zQ} {r0 : Option Nat} {x1 : Int} (h : zEV xs L d b1 b2 false 82 (zblk 82 0) [some (Sum.inr (Sum.inr r0)), some (Sum.inl x1)] [] H Q) : zEm xs L d b1 b2 82 [Sum.inr (Sum.inr r0), Sum.inl x1] H Q := ⟨Nat.le_of_ble_eq_true rfl, h⟩
theorem ze_83_0 : zblk 83 0 = zB_83_0 := rfl
theorem ze_83_10 : zblk 83 10 = zB_83_10 := rfl
theorem ze_83_13 : zblk 83 13 = zB_83_13 := rfl
theorem zem_83 {xs : Nat → Int} {L d b1 b2 : Nat} {H : zH} {Q : zQ} {r0 : Option Nat} {x1 : Int} (h : zEV xs L d b1 b2 false 83 (zblk 83 0) [some (Sum.inr (Sum.inr r0)), some (Sum.inl x1), none] [] H Q) : zEm xs L d b1 b2 83 [Sum.inr (Sum.inr r0), Sum.inl x1] H Q := ⟨Nat.le_of_ble_eq_true rfl, h⟩
theorem ze_84_0 : zblk 84 0 = zB_84_0 := rfl
theorem zem_84 {xs : Nat → Int} {L d b1 b2 : Nat} {H : zH} {Q : zQ} {r0 : Option Nat} (h : zEV xs L d b1 b2 false 84 (zblk 84 0) [some (Sum.inr (Sum.inr r0))] [] H Q) : zEm xs L d b1 b2 84 [Sum.inr (Sum.inr r0)] H Q := ⟨Nat.le_of_ble_eq_true rfl, h⟩
theorem ze_85_0 : zblk 85 0 = zB_85_0 := rfl
theorem ze_85_20 : zblk 85 20 = zB_85_20 := rfl
theorem ze_85_35 : zblk 85 35 = zB_85_35 := rfl
theorem ze_85_62 : zblk 85 62 = zB_85_62 := rfl
theorem ze_85_115 : zblk 85 115 = zB_85_115 := rfl
theorem ze_85_121 : zblk 85 121 = zB_85_121 := rfl
theorem ze_85_127 : zblk 85 127 = zB_85_127 := rfl
theorem ze_85_131 : zblk 85 131 = zB_85_131 := rfl
theorem ze_85_160 : zblk 85 160 = zB_85_160 := rfl
theorem zem_85 {xs : Nat → Int} {L d b1 b2 : Nat} {H : zH} {Q : zQ} {r0 : Option Nat} (h : zEV xs L d b1 b2 false 85 (zblk 85 0) [some (Sum.inr (Sum.inr r0)), none, none, none, none, none, none, none] [] H Q) : zEm xs L d b1 b2 85 [Sum.inr (Sum.inr r0)] H Q := ⟨Nat.le_of_ble_eq_true rfl, h⟩
theorem ze_86_0 : zblk 86 0 = zB_86_0 := rfl
theorem zem_86 {xs : Nat → Int} {L d b1 b2 : Nat} {H : zH} {Q : zQ} {x1 : Int} (h : zEV xs L d b1 b2 false 86 (zblk 86 0) [some (Sum.inl x1)] [] H Q) : zEm xs L d b1 b2 86 [Sum.inl x1] H Q := ⟨Nat.le_of_ble_eq_true rfl, h⟩
theorem ze_87_0 : zblk 87 0 = zB_87_0 := rfl
theorem zem_87 {xs : Nat → Int} {L d b1 b2 : Nat} {H : zH} {Q : zQ} {r0 : Option Nat} {x1 : Int} {x2 : Int} (h : zEV xs L d b1 b2 false 87 (zblk 87 0) [some (Sum.inr (Sum.inr r0)), some (Sum.inl x1), some (Sum.inl x2)] [] H Q) : zEm xs L d b1 b2 87 [Sum.inr (Sum.inr r0), Sum.inl x1, Sum.inl x2] H Q := ⟨Nat.le_of_ble_eq_true rfl, h⟩
theorem ze_88_0 : zblk 88 0 = zB_88_0 := rfl
theorem ze_88_10 : zblk 88 10 = zB_88_10 := rfl
theorem ze_88_15 : zblk 88 15 = zB_88_15 := rfl
theorem ze_88_23 : zblk 88 23 = zB_88_23 := rfl
theorem zem_88 {xs : Nat → Int} {L d b1 b2 : Nat} {H : zH} {Q : zQ} {r0 : Option Nat} {x1 : Int} (h : zEV xs L d b1 b2 false 88 (zblk 88 0) [some (Sum.inr (Sum.inr r0)), some (Sum.inl x1)] [] H Q) : zEm xs L d b1 b2 88 [Sum.inr (Sum.inr r0), Sum.inl x1] H Q := ⟨Nat.le_of_ble_eq_true rfl, h⟩
theorem ze_89_0 : zblk 89 0 = zB_89_0 := rfl
theorem zem_89 {xs : Nat → Int} {L d b1 b2 : Nat} {H : zH} {Q : zQ} {r0 : Option Nat} {x1 : Int} (h : zEV xs L d b1 b2 false 89 (zblk 89 0) [some (Sum.inr (Sum.inr r0)), some (Sum.inl x1)] [] H Q) : zEm xs L d b1 b2 89 [Sum.inr (Sum.inr r0), Sum.inl x1] H Q := ⟨Nat.le_of_ble_eq_true rfl, h⟩
theorem ze_90_0 : zblk 90 0 = zB_90_0 := rfl
theorem ze_90_36 : zblk 90 36 = zB_90_36 := rfl
theorem ze_90_63 : zblk 90 63 = zB_90_63 := rfl
theorem ze_90_115 : zblk 90 115 = zB_90_115 := rfl
theorem ze_90_160 : zblk 90 160 = zB_90_160 := rfl
theorem ze_90_166 : zblk 90 166 = zB_90_166 := rfl
theorem ze_90_172 : zblk 90 172 = zB_90_172 := rfl
theorem zem_90 {xs : Nat → Int} {L d b1 b2 : Nat} {H : zH} {Q : zQ} {r0 : Option Nat} (h : zEV xs L d b1 b2 false 90 (zblk 90 0) [some (Sum.inr (Sum.inr r0)), none, none, none, none, none, none, none] [] H Q) : zEm xs L d b1 b2 90 [Sum.inr (Sum.inr r0)] H Q := ⟨Nat.le_of_ble_eq_true rfl, h⟩
theorem ze_91_0 : zblk 91 0 = zB_91_0 := rfl
theorem ze_91_7 : zblk 91 7 = zB_91_7 := rfl
theorem ze_91_18 : zblk 91 18 = zB_91_18 := rfl
theorem ze_91_84 : zblk 91 84 = zB_91_84 := rfl
theorem ze_91_85 : zblk 91 85 = zB_91_85 := rfl
theorem ze_91_102 : zblk 91 102 = zB_91_102 := rfl
theorem ze_91_108 : zblk 91 108 = zB_91_108 := rfl
theorem ze_91_114 : zblk 91 114 = zB_91_114 := rfl
theorem ze_91_126 : zblk 91 126 = zB_91_126 := rfl
theorem ze_91_127 : zblk 91 127 = zB_91_127 := rfl
theorem zem_91 {xs : Nat → Int} {L d b1 b2 : Nat} {H : zH} {Q : zQ} {r0 : Option Nat} {x1 : Int} (h : zEV xs L d b1 b2 false 91 (zblk 91 0) [some (Sum.inr (Sum.inr r0)), some (Sum.inl x1), none, none, none, none, none, none] [] H Q) : zEm xs L d b1 b2 91 [Sum.inr (Sum.inr r0), Sum.inl x1] H Q := ⟨Nat.le_of_ble_eq_true rfl, h⟩
theorem ze_92_0 : zblk 92 0 = zB_92_0 := rfl
theorem zem_92 {xs : Nat → Int} {L d b1 b2 : Nat} {H : zH} {Q : zQ} {r0 : Option Nat} (h : zEV xs L d b1 b2 false 92 (zblk 92 0) [some (Sum.inr (Sum.inr r0))] [] H Q) : zEm xs L d b1 b2 92 [Sum.inr (Sum.inr r0)] H Q := ⟨Nat.le_of_ble_eq_true rfl, h⟩
theorem ze_93_0 : zblk 93 0 = zB_93_0 := rfl
theorem ze_93_8 : zblk 93 8 = zB_93_8 := rfl
theorem ze_93_32 : zblk 93 32 = zB_93_32 := rfl
theorem ze_93_34 : zblk 93 34 = zB_93_34 := rfl
theorem ze_93_46 : zblk 93 46 = zB_93_46 := rfl
theorem ze_93_65 : zblk 93 65 = zB_93_65 := rfl
theorem ze_93_108 : zblk 93 108 = zB_93_108 := rfl
theorem zem_93 {xs : Nat → Int} {L d b1 b2 : Nat} {H : zH} {Q : zQ} {r0 : Option Nat} {x1 : Option Nat} (h : zEV xs L d b1 b2 false 93 (zblk 93 0) [some (Sum.inr (Sum.inr r0)), some (Sum.inr (Sum.inr x1)), none, none, none, none, none] [] H Q) : zEm xs L d b1 b2 93 [Sum.inr (Sum.inr r0), Sum.inr (Sum.inr x1)] H Q := ⟨Nat.le_of_ble_eq_true rfl, h⟩
theorem ze_94_0 : zblk 94 0 = zB_94_0 := rfl
theorem ze_94_22 : zblk 94 22 = zB_94_22 := rfl
theorem ze_94_35 : zblk 94 35 = zB_94_35 := rfl
theorem ze_94_95 : zblk 94 95 = zB_94_95 := rfl
theorem ze_94_101 : zblk 94 101 = zB_94_101 := rfl
theorem ze_94_107 : zblk 94 107 = zB_94_107 := rfl
theorem zem_94 {xs : Nat → Int} {L d b1 b2 : Nat} {H : zH} {Q : zQ} {r0 : Option Nat} {x1 : Option Nat} {x2 : Int} (h : zEV xs L d b1 b2 false 94 (zblk 94 0) [some (Sum.inr (Sum.inr r0)), some (Sum.inr (Sum.inr x1)), some (Sum.inl x2), none, none, none, none, none] [] H Q) : zEm xs L d b1 b2 94 [Sum.inr (Sum.inr r0), Sum.inr (Sum.inr x1), Sum.inl x2] H Q := ⟨Nat.le_of_ble_eq_true rfl, h⟩
theorem ze_95_0 : zblk 95 0 = zB_95_0 := rfl
theorem ze_95_15 : zblk 95 15 = zB_95_15 := rfl
theorem ze_95_24 : zblk 95 24 = zB_95_24 := rfl
theorem ze_95_25 : zblk 95 25 = zB_95_25 := rfl
theorem zem_95 {xs : Nat → Int} {L d b1 b2 : Nat} {H : zH} {Q : zQ} {x1 : Int} {x2 : Int} {x3 : Int} {x4 : Int} (h : zEV xs L d b1 b2 false 95 (zblk 95 0) [some (Sum.inl x1), some (Sum.inl x2), some (Sum.inl x3), some (Sum.inl x4)] [] H Q) : zEm xs L d b1 b2 95 [Sum.inl x1, Sum.inl x2, Sum.inl x3, Sum.inl x4] H Q := ⟨Nat.le_of_ble_eq_true rfl, h⟩
theorem ze_96_0 : zblk 96 0 = zB_96_0 := rfl
theorem ze_96_3 : zblk 96 3 = zB_96_3 := rfl
theorem ze_96_53 : zblk 96 53 = zB_96_53 := rfl
theorem ze_96_59 : zblk 96 59 = zB_96_59 := rfl
theorem zem_96 {xs : Nat → Int} {L d b1 b2 : Nat} {H : zH} {Q : zQ} {r0 : Option Nat} {x1 : Int} {x2 : Int} {x3 : Int} {x4 : Int} (h : zEV xs L d b1 b2 false 96 (zblk 96 0) [some (Sum.inr (Sum.inr r0)), some (Sum.inl x1), some (Sum.inl x2), some (Sum.inl x3), some (Sum.inl x4), none, none] [] H Q) : zEm xs L d b1 b2 96 [Sum.inr (Sum.inr r0), Sum.inl x1, Sum.inl x2, Sum.inl x3, Sum.inl x4] H Q := ⟨Nat.le_of_ble_eq_true rfl, h⟩
theorem ze_97_0 : zblk 97 0 = zB_97_0 := rfl
theorem ze_97_26 : zblk 97 26 = zB_97_26 := rfl
theorem zem_97 {xs : Nat → Int} {L d b1 b2 : Nat} {H : zH} {Q : zQ} {r0 : Option Nat} (h : zEV xs L d b1 b2 false 97 (zblk 97 0) [some (Sum.inr (Sum.inr r0)), none] [] H Q) : zEm xs L d b1 b2 97 [Sum.inr (Sum.inr r0)] H Q := ⟨Nat.le_of_ble_eq_true rfl, h⟩
theorem ze_98_0 : zblk 98 0 = zB_98_0 := rfl
theorem ze_98_2 : zblk 98 2 = zB_98_2 := rfl
theorem ze_98_33 : zblk 98 33 = zB_98_33 := rfl
theorem zem_98 {xs : Nat → Int} {L d b1 b2 : Nat} {H : zH} {Q : zQ} {r0 : Option Nat} {x1 : Option Nat} (h : zEV xs L d b1 b2 false 98 (zblk 98 0) [some (Sum.inr (Sum.inr r0)), some (Sum.inr (Sum.inr x1)), none] [] H Q) : zEm xs L d b1 b2 98 [Sum.inr (Sum.inr r0), Sum.inr (Sum.inr x1)] H Q := ⟨Nat.le_of_ble_eq_true rfl, h⟩
theorem ze_99_0 : zblk 99 0 = zB_99_0 := rfl
theorem zem_99 {xs : Nat → Int} {L d b1 b2 : Nat} {H : zH} {Q : zQ} {r0 : Option Nat} {x1 : Option Nat} {x2 : Int} {x3 : Int} (h : zEV xs L d b1 b2 false 99 (zblk 99 0) [some (Sum.inr (Sum.inr r0)), some (Sum.inr (Sum.inr x1)), some (Sum.inl x2), some (Sum.inl x3), none] [] H Q) : zEm xs L d b1 b2 99 [Sum.inr (Sum.inr r0), Sum.inr (Sum.inr x1), Sum.inl x2, Sum.inl x3] H Q := ⟨Nat.le_of_ble_eq_true rfl, h⟩
theorem ze_100_0 : zblk 100 0 = zB_100_0 := rfl
theorem ze_100_2 : zblk 100 2 = zB_100_2 := rfl
theorem ze_100_20 : zblk 100 20 = zB_100_20 := rfl
theorem ze_100_26 : zblk 100 26 = zB_100_26 := rfl
theorem zem_100 {xs : Nat → Int} {L d b1 b2 : Nat} {H : zH} {Q : zQ} {r0 : Option Nat} {x1 : Int} (h : zEV xs L d b1 b2 false 100 (zblk 100 0) [some (Sum.inr (Sum.inr r0)), some (Sum.inl x1), none] [] H Q) : zEm xs L d b1 b2 100 [Sum.inr (Sum.inr r0), Sum.inl x1] H Q := ⟨Nat.le_of_ble_eq_true rfl, h⟩
theorem ze_101_0 : zblk 101 0 = zB_101_0 := rfl
theorem ze_101_15 : zblk 101 15 = zB_101_15 := rfl
theorem ze_101_19 : zblk 101 19 = zB_101_19 := rfl
theorem ze_101_28 : zblk 101 28 = zB_101_28 := rfl
theorem zem_101 {xs : Nat → Int} {L d b1 b2 : Nat} {H : zH} {Q : zQ} {r0 : Option Nat} {x1 : Int} (h : zEV xs L d b1 b2 false 101 (zblk 101 0) [some (Sum.inr (Sum.inr r0)), some (Sum.inl x1)] [] H Q) : zEm xs L d b1 b2 101 [Sum.inr (Sum.inr r0), Sum.inl x1] H Q := ⟨Nat.le_of_ble_eq_true rfl, h⟩
theorem ze_102_0 : zblk 102 0 = zB_102_0 := rfl
theorem ze_102_17 : zblk 102 17 = zB_102_17 := rfl
theorem ze_102_19 : zblk 102 19 = zB_102_19 := rfl
theorem zem_102 {xs : Nat → Int} {L d b1 b2 : Nat} {H : zH} {Q : zQ} {r0 : Option Nat} {x1 : Int} (h : zEV xs L d b1 b2 false 102 (zblk 102 0) [some (Sum.inr (Sum.inr r0)), some (Sum.inl x1)] [] H Q) : zEm xs L d b1 b2 102 [Sum.inr (Sum.inr r0), Sum.inl x1] H Q := ⟨Nat.le_of_ble_eq_true rfl, h⟩
theorem ze_103_0 : zblk 103 0 = zB_103_0 := rfl
theorem ze_103_30 : zblk 103 30 = zB_103_30 := rfl
theorem ze_103_31 : zblk 103 31 = zB_103_31 := rfl
theorem zem_103 {xs : Nat → Int} {L d b1 b2 : Nat} {H : zH} {Q : zQ} {r0 : Option Nat} {x1 : Int} {x2 : Int} (h : zEV xs L d b1 b2 false 103 (zblk 103 0) [some (Sum.inr (Sum.inr r0)), some (Sum.inl x1), some (Sum.inl x2), none] [] H Q) : zEm xs L d b1 b2 103 [Sum.inr (Sum.inr r0), Sum.inl x1, Sum.inl x2] H Q := ⟨Nat.le_of_ble_eq_true rfl, h⟩
theorem ze_104_0 : zblk 104 0 = zB_104_0 := rfl
theorem zem_104 {xs : Nat → Int} {L d b1 b2 : Nat} {H : zH} {Q : zQ} {r0 : Option Nat} (h : zEV xs L d b1 b2 false 104 (zblk 104 0) [some (Sum.inr (Sum.inr r0)), none] [] H Q) : zEm xs L d b1 b2 104 [Sum.inr (Sum.inr r0)] H Q := ⟨Nat.le_of_ble_eq_true rfl, h⟩
theorem ze_105_0 : zblk 105 0 = zB_105_0 := rfl
theorem ze_105_11 : zblk 105 11 = zB_105_11 := rfl
theorem ze_105_23 : zblk 105 23 = zB_105_23 := rfl
theorem zem_105 {xs : Nat → Int} {L d b1 b2 : Nat} {H : zH} {Q : zQ} {r0 : Option Nat} {x1 : Option Nat} (h : zEV xs L d b1 b2 false 105 (zblk 105 0) [some (Sum.inr (Sum.inr r0)), some (Sum.inr (Sum.inr x1))] [] H Q) : zEm xs L d b1 b2 105 [Sum.inr (Sum.inr r0), Sum.inr (Sum.inr x1)] H Q := ⟨Nat.le_of_ble_eq_true rfl, h⟩
theorem ze_106_0 : zblk 106 0 = zB_106_0 := rfl
theorem zem_106 {xs : Nat → Int} {L d b1 b2 : Nat} {H : zH} {Q : zQ} {r0 : Option Nat} {x1 : Int} (h : zEV xs L d b1 b2 false 106 (zblk 106 0) [some (Sum.inr (Sum.inr r0)), some (Sum.inl x1)] [] H Q) : zEm xs L d b1 b2 106 [Sum.inr (Sum.inr r0), Sum.inl x1] H Q := ⟨Nat.le_of_ble_eq_true rfl, h⟩
theorem ze_107_0 : zblk 107 0 = zB_107_0 := rfl
theorem ze_107_19 : zblk 107 19 = zB_107_19 := rfl
theorem ze_107_21 : zblk 107 21 = zB_107_21 := rfl
theorem ze_107_44 : zblk 107 44 = zB_107_44 := rfl
theorem ze_107_47 : zblk 107 47 = zB_107_47 := rfl
theorem ze_107_88 : zblk 107 88 = zB_107_88 := rfl
theorem ze_107_114 : zblk 107 114 = zB_107_114 := rfl
theorem ze_107_124 : zblk 107 124 = zB_107_124 := rfl
theorem ze_107_181 : zblk 107 181 = zB_107_181 := rfl
theorem ze_107_182 : zblk 107 182 = zB_107_182 := rfl
theorem ze_107_185 : zblk 107 185 = zB_107_185 := rfl
theorem ze_107_205 : zblk 107 205 = zB_107_205 := rfl
theorem ze_107_211 : zblk 107 211 = zB_107_211 := rfl
theorem zem_107 {xs : Nat → Int} {L d b1 b2 : Nat} {H : zH} {Q : zQ} {r0 : Option Nat} {x1 : Int} {x2 : Option Nat} (h : zEV xs L d b1 b2 false 107 (zblk 107 0) [some (Sum.inr (Sum.inr r0)), some (Sum.inl x1), some (Sum.inr (Sum.inr x2)), none, none, none, none, none, none, none] [] H Q) : zEm xs L d b1 b2 107 [Sum.inr (Sum.inr r0), Sum.inl x1, Sum.inr (Sum.inr x2)] H Q := ⟨Nat.le_of_ble_eq_true rfl, h⟩
theorem ze_108_0 : zblk 108 0 = zB_108_0 := rfl
theorem zem_108 {xs : Nat → Int} {L d b1 b2 : Nat} {H : zH} {Q : zQ} {r0 : Option Nat} (h : zEV xs L d b1 b2 false 108 (zblk 108 0) [some (Sum.inr (Sum.inr r0))] [] H Q) : zEm xs L d b1 b2 108 [Sum.inr (Sum.inr r0)] H Q := ⟨Nat.le_of_ble_eq_true rfl, h⟩
theorem ze_109_0 : zblk 109 0 = zB_109_0 := rfl
theorem ze_109_7 : zblk 109 7 = zB_109_7 := rfl
theorem ze_109_40 : zblk 109 40 = zB_109_40 := rfl
theorem ze_109_46 : zblk 109 46 = zB_109_46 := rfl
theorem ze_109_52 : zblk 109 52 = zB_109_52 := rfl
theorem zem_109 {xs : Nat → Int} {L d b1 b2 : Nat} {H : zH} {Q : zQ} {r0 : Option Nat} {x1 : Option Nat} (h : zEV xs L d b1 b2 false 109 (zblk 109 0) [some (Sum.inr (Sum.inr r0)), some (Sum.inr (Sum.inr x1)), none, none, none, none] [] H Q) : zEm xs L d b1 b2 109 [Sum.inr (Sum.inr r0), Sum.inr (Sum.inr x1)] H Q := ⟨Nat.le_of_ble_eq_true rfl, h⟩
theorem ze_110_0 : zblk 110 0 = zB_110_0 := rfl
theorem ze_110_27 : zblk 110 27 = zB_110_27 := rfl
theorem ze_110_34 : zblk 110 34 = zB_110_34 := rfl
theorem ze_110_53 : zblk 110 53 = zB_110_53 := rfl
theorem zem_110 {xs : Nat → Int} {L d b1 b2 : Nat} {H : zH} {Q : zQ} {r0 : Option Nat} (h : zEV xs L d b1 b2 false 110 (zblk 110 0) [some (Sum.inr (Sum.inr r0)), none] [] H Q) : zEm xs L d b1 b2 110 [Sum.inr (Sum.inr r0)] H Q := ⟨Nat.le_of_ble_eq_true rfl, h⟩
theorem ze_111_0 : zblk 111 0 = zB_111_0 := rfl
theorem ze_111_68 : zblk 111 68 = zB_111_68 := rfl
theorem ze_111_104 : zblk 111 104 = zB_111_104 := rfl
theorem ze_111_124 : zblk 111 124 = zB_111_124 := rfl
theorem ze_111_135 : zblk 111 135 = zB_111_135 := rfl
theorem ze_111_136 : zblk 111 136 = zB_111_136 := rfl
theorem zem_111 {xs : Nat → Int} {L d b1 b2 : Nat} {H : zH} {Q : zQ} {r0 : Option Nat} {x1 : Option Nat} (h : zEV xs L d b1 b2 false 111 (zblk 111 0) [some (Sum.inr (Sum.inr r0)), some (Sum.inr (Sum.inr x1)), none] [] H Q) : zEm xs L d b1 b2 111 [Sum.inr (Sum.inr r0), Sum.inr (Sum.inr x1)] H Q := ⟨Nat.le_of_ble_eq_true rfl, h⟩
theorem ze_112_0 : zblk 112 0 = zB_112_0 := rfl
theorem ze_112_12 : zblk 112 12 = zB_112_12 := rfl
theorem ze_112_14 : zblk 112 14 = zB_112_14 := rfl
theorem ze_112_31 : zblk 112 31 = zB_112_31 := rfl
theorem ze_112_52 : zblk 112 52 = zB_112_52 := rfl
theorem zem_112 {xs : Nat → Int} {L d b1 b2 : Nat} {H : zH} {Q : zQ} {r0 : Option Nat} {x1 : Int} (h : zEV xs L d b1 b2 false 112 (zblk 112 0) [some (Sum.inr (Sum.inr r0)), some (Sum.inl x1)] [] H Q) : zEm xs L d b1 b2 112 [Sum.inr (Sum.inr r0), Sum.inl x1] H Q := ⟨Nat.le_of_ble_eq_true rfl, h⟩
theorem ze_113_0 : zblk 113 0 = zB_113_0 := rfl
theorem ze_113_5 : zblk 113 5 = zB_113_5 := rfl
theorem ze_113_41 : zblk 113 41 = zB_113_41 := rfl
theorem ze_113_68 : zblk 113 68 = zB_113_68 := rfl
theorem ze_113_70 : zblk 113 70 = zB_113_70 := rfl
theorem ze_113_81 : zblk 113 81 = zB_113_81 := rfl
theorem zem_113 {xs : Nat → Int} {L d b1 b2 : Nat} {H : zH} {Q : zQ} {r0 : Option Nat} (h : zEV xs L d b1 b2 false 113 (zblk 113 0) [some (Sum.inr (Sum.inr r0)), none] [] H Q) : zEm xs L d b1 b2 113 [Sum.inr (Sum.inr r0)] H Q := ⟨Nat.le_of_ble_eq_true rfl, h⟩
theorem ze_114_0 : zblk 114 0 = zB_114_0 := rfl
theorem ze_114_23 : zblk 114 23 = zB_114_23 := rfl
theorem zem_114 {xs : Nat → Int} {L d b1 b2 : Nat} {H : zH} {Q : zQ} {r0 : Option Nat} (h : zEV xs L d b1 b2 false 114 (zblk 114 0) [some (Sum.inr (Sum.inr r0)), none] [] H Q) : zEm xs L d b1 b2 114 [Sum.inr (Sum.inr r0)] H Q := ⟨Nat.le_of_ble_eq_true rfl, h⟩
theorem ze_115_0 : zblk 115 0 = zB_115_0 := rfl
theorem ze_115_3 : zblk 115 3 = zB_115_3 := rfl
theorem ze_115_15 : zblk 115 15 = zB_115_15 := rfl
theorem ze_115_62 : zblk 115 62 = zB_115_62 := rfl
theorem ze_115_71 : zblk 115 71 = zB_115_71 := rfl
theorem ze_115_77 : zblk 115 77 = zB_115_77 := rfl
theorem zem_115 {xs : Nat → Int} {L d b1 b2 : Nat} {H : zH} {Q : zQ} {r0 : Option Nat} {x1 : Option Nat} {x2 : Int} {x3 : Int} (h : zEV xs L d b1 b2 false 115 (zblk 115 0) [some (Sum.inr (Sum.inr r0)), some (Sum.inr (Sum.inr x1)), some (Sum.inl x2), some (Sum.inl x3), none, none] [] H Q) : zEm xs L d b1 b2 115 [Sum.inr (Sum.inr r0), Sum.inr (Sum.inr x1), Sum.inl x2, Sum.inl x3] H Q := ⟨Nat.le_of_ble_eq_true rfl, h⟩
theorem ze_116_0 : zblk 116 0 = zB_116_0 := rfl
theorem zem_116 {xs : Nat → Int} {L d b1 b2 : Nat} {H : zH} {Q : zQ} {r0 : Option Nat} {x1 : Int} (h : zEV xs L d b1 b2 false 116 (zblk 116 0) [some (Sum.inr (Sum.inr r0)), some (Sum.inl x1)] [] H Q) : zEm xs L d b1 b2 116 [Sum.inr (Sum.inr r0), Sum.inl x1] H Q := ⟨Nat.le_of_ble_eq_true rfl, h⟩
theorem ze_117_0 : zblk 117 0 = zB_117_0 := rfl
theorem ze_117_10 : zblk 117 10 = zB_117_10 := rfl
theorem ze_117_40 : zblk 117 40 = zB_117_40 := rfl
theorem ze_117_41 : zblk 117 41 = zB_117_41 := rfl
theorem ze_117_42 : zblk 117 42 = zB_117_42 := rfl
theorem ze_117_52 : zblk 117 52 = zB_117_52 := rfl
theorem ze_117_63 : zblk 117 63 = zB_117_63 := rfl
theorem zem_117 {xs : Nat → Int} {L d b1 b2 : Nat} {H : zH} {Q : zQ} {r0 : Option Nat} {x1 : Int} (h : zEV xs L d b1 b2 false 117 (zblk 117 0) [some (Sum.inr (Sum.inr r0)), some (Sum.inl x1)] [] H Q) : zEm xs L d b1 b2 117 [Sum.inr (Sum.inr r0), Sum.inl x1] H Q := ⟨Nat.le_of_ble_eq_true rfl, h⟩
theorem ze_118_0 : zblk 118 0 = zB_118_0 := rfl
theorem ze_118_34 : zblk 118 34 = zB_118_34 := rfl
theorem ze_118_44 : zblk 118 44 = zB_118_44 := rfl
theorem ze_118_58 : zblk 118 58 = zB_118_58 := rfl
theorem ze_118_69 : zblk 118 69 = zB_118_69 := rfl
theorem ze_118_100 : zblk 118 100 = zB_118_100 := rfl
theorem ze_118_136 : zblk 118 136 = zB_118_136 := rfl
theorem zem_118 {xs : Nat → Int} {L d b1 b2 : Nat} {H : zH} {Q : zQ} {r0 : Option Nat} {x1 : Int} (h : zEV xs L d b1 b2 false 118 (zblk 118 0) [some (Sum.inr (Sum.inr r0)), some (Sum.inl x1)] [] H Q) : zEm xs L d b1 b2 118 [Sum.inr (Sum.inr r0), Sum.inl x1] H Q := ⟨Nat.le_of_ble_eq_true rfl, h⟩
theorem ze_119_0 : zblk 119 0 = zB_119_0 := rfl
theorem ze_119_17 : zblk 119 17 = zB_119_17 := rfl
theorem ze_119_19 : zblk 119 19 = zB_119_19 := rfl
theorem zem_119 {xs : Nat → Int} {L d b1 b2 : Nat} {H : zH} {Q : zQ} {r0 : Option Nat} (h : zEV xs L d b1 b2 false 119 (zblk 119 0) [some (Sum.inr (Sum.inr r0))] [] H Q) : zEm xs L d b1 b2 119 [Sum.inr (Sum.inr r0)] H Q := ⟨Nat.le_of_ble_eq_true rfl, h⟩
theorem ze_120_0 : zblk 120 0 = zB_120_0 := rfl
theorem zem_120 {xs : Nat → Int} {L d b1 b2 : Nat} {H : zH} {Q : zQ} {r0 : Option Nat} (h : zEV xs L d b1 b2 false 120 (zblk 120 0) [some (Sum.inr (Sum.inr r0))] [] H Q) : zEm xs L d b1 b2 120 [Sum.inr (Sum.inr r0)] H Q := ⟨Nat.le_of_ble_eq_true rfl, h⟩
theorem ze_121_0 : zblk 121 0 = zB_121_0 := rfl
theorem ze_121_9 : zblk 121 9 = zB_121_9 := rfl
theorem ze_121_21 : zblk 121 21 = zB_121_21 := rfl
theorem ze_121_22 : zblk 121 22 = zB_121_22 := rfl
theorem zem_121 {xs : Nat → Int} {L d b1 b2 : Nat} {H : zH} {Q : zQ} {r0 : Option Nat} {x1 : Int} (h : zEV xs L d b1 b2 false 121 (zblk 121 0) [some (Sum.inr (Sum.inr r0)), some (Sum.inl x1)] [] H Q) : zEm xs L d b1 b2 121 [Sum.inr (Sum.inr r0), Sum.inl x1] H Q := ⟨Nat.le_of_ble_eq_true rfl, h⟩
theorem ze_122_0 : zblk 122 0 = zB_122_0 := rfl
theorem ze_122_46 : zblk 122 46 = zB_122_46 := rfl
theorem ze_122_47 : zblk 122 47 = zB_122_47 := rfl
theorem ze_122_48 : zblk 122 48 = zB_122_48 := rfl
theorem zem_122 {xs : Nat → Int} {L d b1 b2 : Nat} {H : zH} {Q : zQ} {r0 : Option Nat} (h : zEV xs L d b1 b2 false 122 (zblk 122 0) [some (Sum.inr (Sum.inr r0)), none] [] H Q) : zEm xs L d b1 b2 122 [Sum.inr (Sum.inr r0)] H Q := ⟨Nat.le_of_ble_eq_true rfl, h⟩
theorem ze_123_0 : zblk 123 0 = zB_123_0 := rfl
theorem ze_123_21 : zblk 123 21 = zB_123_21 := rfl
theorem ze_123_70 : zblk 123 70 = zB_123_70 := rfl
theorem ze_123_76 : zblk 123 76 = zB_123_76 := rfl
theorem ze_123_88 : zblk 123 88 = zB_123_88 := rfl
theorem ze_123_96 : zblk 123 96 = zB_123_96 := rfl
theorem ze_123_140 : zblk 123 140 = zB_123_140 := rfl
theorem ze_123_146 : zblk 123 146 = zB_123_146 := rfl
theorem ze_123_166 : zblk 123 166 = zB_123_166 := rfl
theorem ze_123_167 : zblk 123 167 = zB_123_167 := rfl
theorem zem_123 {xs : Nat → Int} {L d b1 b2 : Nat} {H : zH} {Q : zQ} {r0 : Option Nat} {x1 : Option Nat} {x2 : Option Nat} (h : zEV xs L d b1 b2 false 123 (zblk 123 0) [some (Sum.inr (Sum.inr r0)), some (Sum.inr (Sum.inr x1)), some (Sum.inr (Sum.inr x2)), none, none, none] [] H Q) : zEm xs L d b1 b2 123 [Sum.inr (Sum.inr r0), Sum.inr (Sum.inr x1), Sum.inr (Sum.inr x2)] H Q := ⟨Nat.le_of_ble_eq_true rfl, h⟩
theorem ze_124_0 : zblk 124 0 = zB_124_0 := rfl
theorem ze_124_6 : zblk 124 6 = zB_124_6 := rfl
theorem ze_124_22 : zblk 124 22 = zB_124_22 := rfl
theorem zem_124 {xs : Nat → Int} {L d b1 b2 : Nat} {H : zH} {Q : zQ} {x1 : Option Nat} {x2 : Int} (h : zEV xs L d b1 b2 false 124 (zblk 124 0) [some (Sum.inr (Sum.inr x1)), some (Sum.inr (Sum.inl x2)), none, none, none] [] H Q) : zEm xs L d b1 b2 124 [Sum.inr (Sum.inr x1), Sum.inr (Sum.inl x2)] H Q := ⟨Nat.le_of_ble_eq_true rfl, h⟩
theorem ze_125_0 : zblk 125 0 = zB_125_0 := rfl
theorem ze_125_15 : zblk 125 15 = zB_125_15 := rfl
theorem ze_125_38 : zblk 125 38 = zB_125_38 := rfl
theorem ze_125_90 : zblk 125 90 = zB_125_90 := rfl
theorem ze_125_123 : zblk 125 123 = zB_125_123 := rfl
theorem ze_125_172 : zblk 125 172 = zB_125_172 := rfl
theorem ze_125_199 : zblk 125 199 = zB_125_199 := rfl
theorem ze_125_229 : zblk 125 229 = zB_125_229 := rfl
theorem ze_125_232 : zblk 125 232 = zB_125_232 := rfl
theorem ze_125_236 : zblk 125 236 = zB_125_236 := rfl
theorem ze_125_267 : zblk 125 267 = zB_125_267 := rfl
theorem ze_125_273 : zblk 125 273 = zB_125_273 := rfl
theorem zem_125 {xs : Nat → Int} {L d b1 b2 : Nat} {H : zH} {Q : zQ} {r0 : Option Nat} {x1 : Option Nat} {x2 : Int} {x3 : Int} (h : zEV xs L d b1 b2 false 125 (zblk 125 0) [some (Sum.inr (Sum.inr r0)), some (Sum.inr (Sum.inr x1)), some (Sum.inl x2), some (Sum.inl x3), none, none, none, none] [] H Q) : zEm xs L d b1 b2 125 [Sum.inr (Sum.inr r0), Sum.inr (Sum.inr x1), Sum.inl x2, Sum.inl x3] H Q := ⟨Nat.le_of_ble_eq_true rfl, h⟩
theorem ze_126_0 : zblk 126 0 = zB_126_0 := rfl
theorem ze_126_6 : zblk 126 6 = zB_126_6 := rfl
theorem ze_126_50 : zblk 126 50 = zB_126_50 := rfl
theorem ze_126_56 : zblk 126 56 = zB_126_56 := rfl
theorem zem_126 {xs : Nat → Int} {L d b1 b2 : Nat} {H : zH} {Q : zQ} {r0 : Option Nat} {x1 : Int} {x2 : Int} (h : zEV xs L d b1 b2 false 126 (zblk 126 0) [some (Sum.inr (Sum.inr r0)), some (Sum.inl x1), some (Sum.inr (Sum.inl x2)), none, none, none, none] [] H Q) : zEm xs L d b1 b2 126 [Sum.inr (Sum.inr r0), Sum.inl x1, Sum.inr (Sum.inl x2)] H Q := ⟨Nat.le_of_ble_eq_true rfl, h⟩
theorem ze_127_0 : zblk 127 0 = zB_127_0 := rfl
theorem ze_127_10 : zblk 127 10 = zB_127_10 := rfl
theorem ze_127_14 : zblk 127 14 = zB_127_14 := rfl
theorem ze_127_41 : zblk 127 41 = zB_127_41 := rfl
theorem ze_127_42 : zblk 127 42 = zB_127_42 := rfl
theorem zem_127 {xs : Nat → Int} {L d b1 b2 : Nat} {H : zH} {Q : zQ} {r0 : Option Nat} {x1 : Int} (h : zEV xs L d b1 b2 false 127 (zblk 127 0) [some (Sum.inr (Sum.inr r0)), some (Sum.inl x1), none, none] [] H Q) : zEm xs L d b1 b2 127 [Sum.inr (Sum.inr r0), Sum.inl x1] H Q := ⟨Nat.le_of_ble_eq_true rfl, h⟩
theorem ze_128_0 : zblk 128 0 = zB_128_0 := rfl
theorem ze_128_18 : zblk 128 18 = zB_128_18 := rfl
theorem ze_128_34 : zblk 128 34 = zB_128_34 := rfl
theorem ze_128_39 : zblk 128 39 = zB_128_39 := rfl
theorem zem_128 {xs : Nat → Int} {L d b1 b2 : Nat} {H : zH} {Q : zQ} {r0 : Option Nat} {x1 : Option Nat} {x2 : Int} (h : zEV xs L d b1 b2 false 128 (zblk 128 0) [some (Sum.inr (Sum.inr r0)), some (Sum.inr (Sum.inr x1)), some (Sum.inl x2), none] [] H Q) : zEm xs L d b1 b2 128 [Sum.inr (Sum.inr r0), Sum.inr (Sum.inr x1), Sum.inl x2] H Q := ⟨Nat.le_of_ble_eq_true rfl, h⟩
theorem ze_129_0 : zblk 129 0 = zB_129_0 := rfl
theorem ze_129_12 : zblk 129 12 = zB_129_12 := rfl
theorem ze_129_34 : zblk 129 34 = zB_129_34 := rfl
theorem ze_129_68 : zblk 129 68 = zB_129_68 := rfl
theorem ze_129_89 : zblk 129 89 = zB_129_89 := rfl
theorem ze_129_137 : zblk 129 137 = zB_129_137 := rfl
theorem ze_129_153 : zblk 129 153 = zB_129_153 := rfl
theorem ze_129_169 : zblk 129 169 = zB_129_169 := rfl
theorem ze_129_209 : zblk 129 209 = zB_129_209 := rfl
theorem ze_129_215 : zblk 129 215 = zB_129_215 := rfl
theorem zem_129 {xs : Nat → Int} {L d b1 b2 : Nat} {H : zH} {Q : zQ} {r0 : Option Nat} {x1 : Option Nat} {x2 : Int} (h : zEV xs L d b1 b2 false 129 (zblk 129 0) [some (Sum.inr (Sum.inr r0)), some (Sum.inr (Sum.inr x1)), some (Sum.inl x2), none, none, none, none] [] H Q) : zEm xs L d b1 b2 129 [Sum.inr (Sum.inr r0), Sum.inr (Sum.inr x1), Sum.inl x2] H Q := ⟨Nat.le_of_ble_eq_true rfl, h⟩
theorem ze_130_0 : zblk 130 0 = zB_130_0 := rfl
theorem ze_130_10 : zblk 130 10 = zB_130_10 := rfl
theorem ze_130_27 : zblk 130 27 = zB_130_27 := rfl
theorem zem_130 {xs : Nat → Int} {L d b1 b2 : Nat} {H : zH} {Q : zQ} {x1 : Option Nat} {x2 : Int} {x3 : Int} {x4 : Int} (h : zEV xs L d b1 b2 false 130 (zblk 130 0) [some (Sum.inr (Sum.inr x1)), some (Sum.inl x2), some (Sum.inl x3), some (Sum.inr (Sum.inl x4)), none, none] [] H Q) : zEm xs L d b1 b2 130 [Sum.inr (Sum.inr x1), Sum.inl x2, Sum.inl x3, Sum.inr (Sum.inl x4)] H Q := ⟨Nat.le_of_ble_eq_true rfl, h⟩
theorem ze_131_0 : zblk 131 0 = zB_131_0 := rfl
theorem ze_131_30 : zblk 131 30 = zB_131_30 := rfl
theorem ze_131_48 : zblk 131 48 = zB_131_48 := rfl
theorem zem_131 {xs : Nat → Int} {L d b1 b2 : Nat} {H : zH} {Q : zQ} {r0 : Option Nat} {x1 : Int} (h : zEV xs L d b1 b2 false 131 (zblk 131 0) [some (Sum.inr (Sum.inr r0)), some (Sum.inl x1)] [] H Q) : zEm xs L d b1 b2 131 [Sum.inr (Sum.inr r0), Sum.inl x1] H Q := ⟨Nat.le_of_ble_eq_true rfl, h⟩
theorem ze_132_0 : zblk 132 0 = zB_132_0 := rfl
theorem zem_132 {xs : Nat → Int} {L d b1 b2 : Nat} {H : zH} {Q : zQ} {r0 : Option Nat} {x1 : Int} (h : zEV xs L d b1 b2 false 132 (zblk 132 0) [some (Sum.inr (Sum.inr r0)), some (Sum.inl x1), none] [] H Q) : zEm xs L d b1 b2 132 [Sum.inr (Sum.inr r0), Sum.inl x1] H Q := ⟨Nat.le_of_ble_eq_true rfl, h⟩
theorem ze_133_0 : zblk 133 0 = zB_133_0 := rfl
theorem ze_133_16 : zblk 133 16 = zB_133_16 := rfl
theorem ze_133_26 : zblk 133 26 = zB_133_26 := rfl
theorem ze_133_111 : zblk 133 111 = zB_133_111 := rfl
theorem ze_133_117 : zblk 133 117 = zB_133_117 := rfl
theorem zem_133 {xs : Nat → Int} {L d b1 b2 : Nat} {H : zH} {Q : zQ} {r0 : Option Nat} {x1 : Int} {x2 : Int} (h : zEV xs L d b1 b2 false 133 (zblk 133 0) [some (Sum.inr (Sum.inr r0)), some (Sum.inl x1), some (Sum.inl x2), none, none, none, none, none] [] H Q) : zEm xs L d b1 b2 133 [Sum.inr (Sum.inr r0), Sum.inl x1, Sum.inl x2] H Q := ⟨Nat.le_of_ble_eq_true rfl, h⟩
theorem ze_134_0 : zblk 134 0 = zB_134_0 := rfl
theorem ze_134_12 : zblk 134 12 = zB_134_12 := rfl
theorem ze_134_14 : zblk 134 14 = zB_134_14 := rfl
theorem ze_134_30 : zblk 134 30 = zB_134_30 := rfl
theorem ze_134_39 : zblk 134 39 = zB_134_39 := rfl
theorem zem_134 {xs : Nat → Int} {L d b1 b2 : Nat} {H : zH} {Q : zQ} {x1 : Int} {x2 : Int} (h : zEV xs L d b1 b2 false 134 (zblk 134 0) [some (Sum.inr (Sum.inl x1)), none, some (Sum.inr (Sum.inl x2)), none] [] H Q) : zEm xs L d b1 b2 134 [Sum.inr (Sum.inl x1), Sum.inr (Sum.inl x2)] H Q := ⟨Nat.le_of_ble_eq_true rfl, h⟩
theorem ze_135_0 : zblk 135 0 = zB_135_0 := rfl
theorem ze_135_5 : zblk 135 5 = zB_135_5 := rfl
theorem ze_135_46 : zblk 135 46 = zB_135_46 := rfl
theorem zem_135 {xs : Nat → Int} {L d b1 b2 : Nat} {H : zH} {Q : zQ} {r0 : Option Nat} {x1 : Int} (h : zEV xs L d b1 b2 false 135 (zblk 135 0) [some (Sum.inr (Sum.inr r0)), some (Sum.inl x1), none] [] H Q) : zEm xs L d b1 b2 135 [Sum.inr (Sum.inr r0), Sum.inl x1] H Q := ⟨Nat.le_of_ble_eq_true rfl, h⟩
theorem ze_136_0 : zblk 136 0 = zB_136_0 := rfl
theorem ze_136_18 : zblk 136 18 = zB_136_18 := rfl
theorem zem_136 {xs : Nat → Int} {L d b1 b2 : Nat} {H : zH} {Q : zQ} {r0 : Option Nat} (h : zEV xs L d b1 b2 false 136 (zblk 136 0) [some (Sum.inr (Sum.inr r0)), none] [] H Q) : zEm xs L d b1 b2 136 [Sum.inr (Sum.inr r0)] H Q := ⟨Nat.le_of_ble_eq_true rfl, h⟩
theorem ze_137_0 : zblk 137 0 = zB_137_0 := rfl
theorem zem_137 {xs : Nat → Int} {L d b1 b2 : Nat} {H : zH} {Q : zQ} {r0 : Option Nat} (h : zEV xs L d b1 b2 false 137 (zblk 137 0) [some (Sum.inr (Sum.inr r0))] [] H Q) : zEm xs L d b1 b2 137 [Sum.inr (Sum.inr r0)] H Q := ⟨Nat.le_of_ble_eq_true rfl, h⟩
theorem ze_138_0 : zblk 138 0 = zB_138_0 := rfl
theorem ze_138_17 : zblk 138 17 = zB_138_17 := rfl
theorem ze_138_26 : zblk 138 26 = zB_138_26 := rfl
theorem ze_138_70 : zblk 138 70 = zB_138_70 := rfl
theorem ze_138_82 : zblk 138 82 = zB_138_82 := rfl
theorem ze_138_90 : zblk 138 90 = zB_138_90 := rfl
theorem ze_138_101 : zblk 138 101 = zB_138_101 := rfl
theorem ze_138_105 : zblk 138 105 = zB_138_105 := rfl
theorem ze_138_123 : zblk 138 123 = zB_138_123 := rfl
theorem ze_138_129 : zblk 138 129 = zB_138_129 := rfl
theorem ze_138_153 : zblk 138 153 = zB_138_153 := rfl
theorem zem_138 {xs : Nat → Int} {L d b1 b2 : Nat} {H : zH} {Q : zQ} {r0 : Option Nat} {x1 : Option Nat} {x2 : Option Nat} {x3 : Option Nat} (h : zEV xs L d b1 b2 false 138 (zblk 138 0) [some (Sum.inr (Sum.inr r0)), some (Sum.inr (Sum.inr x1)), some (Sum.inr (Sum.inr x2)), some (Sum.inr (Sum.inr x3)), none, none, none] [] H Q) : zEm xs L d b1 b2 138 [Sum.inr (Sum.inr r0), Sum.inr (Sum.inr x1), Sum.inr (Sum.inr x2), Sum.inr (Sum.inr x3)] H Q := ⟨Nat.le_of_ble_eq_true rfl, h⟩
theorem ze_139_0 : zblk 139 0 = zB_139_0 := rfl
theorem ze_139_14 : zblk 139 14 = zB_139_14 := rfl
theorem ze_139_34 : zblk 139 34 = zB_139_34 := rfl
theorem ze_139_70 : zblk 139 70 = zB_139_70 := rfl
theorem ze_139_93 : zblk 139 93 = zB_139_93 := rfl
theorem ze_139_141 : zblk 139 141 = zB_139_141 := rfl
theorem ze_139_158 : zblk 139 158 = zB_139_158 := rfl
theorem ze_139_175 : zblk 139 175 = zB_139_175 := rfl
theorem ze_139_214 : zblk 139 214 = zB_139_214 := rfl
theorem ze_139_220 : zblk 139 220 = zB_139_220 := rfl
theorem ze_139_223 : zblk 139 223 = zB_139_223 := rfl
theorem ze_139_255 : zblk 139 255 = zB_139_255 := rfl
theorem zem_139 {xs : Nat → Int} {L d b1 b2 : Nat} {H : zH} {Q : zQ} {r0 : Option Nat} {x1 : Option Nat} {x2 : Int} {x3 : Int} (h : zEV xs L d b1 b2 false 139 (zblk 139 0) [some (Sum.inr (Sum.inr r0)), some (Sum.inr (Sum.inr x1)), some (Sum.inl x2), some (Sum.inl x3), none, none, none, none] [] H Q) : zEm xs L d b1 b2 139 [Sum.inr (Sum.inr r0), Sum.inr (Sum.inr x1), Sum.inl x2, Sum.inl x3] H Q := ⟨Nat.le_of_ble_eq_true rfl, h⟩
theorem ze_140_0 : zblk 140 0 = zB_140_0 := rfl
theorem zem_140 {xs : Nat → Int} {L d b1 b2 : Nat} {H : zH} {Q : zQ} {r0 : Option Nat} {x1 : Int} (h : zEV xs L d b1 b2 false 140 (zblk 140 0) [some (Sum.inr (Sum.inr r0)), some (Sum.inl x1)] [] H Q) : zEm xs L d b1 b2 140 [Sum.inr (Sum.inr r0), Sum.inl x1] H Q := ⟨Nat.le_of_ble_eq_true rfl, h⟩
theorem ze_141_0 : zblk 141 0 = zB_141_0 := rfl
theorem ze_141_29 : zblk 141 29 = zB_141_29 := rfl
theorem ze_141_47 : zblk 141 47 = zB_141_47 := rfl
theorem zem_141 {xs : Nat → Int} {L d b1 b2 : Nat} {H : zH} {Q : zQ} {r0 : Option Nat} {x1 : Int} {x2 : Int} (h : zEV xs L d b1 b2 false 141 (zblk 141 0) [some (Sum.inr (Sum.inr r0)), some (Sum.inl x1), some (Sum.inl x2)] [] H Q) : zEm xs L d b1 b2 141 [Sum.inr (Sum.inr r0), Sum.inl x1, Sum.inl x2] H Q := ⟨Nat.le_of_ble_eq_true rfl, h⟩
theorem ze_142_0 : zblk 142 0 = zB_142_0 := rfl
theorem ze_142_2 : zblk 142 2 = zB_142_2 := rfl
theorem ze_142_26 : zblk 142 26 = zB_142_26 := rfl
theorem zem_142 {xs : Nat → Int} {L d b1 b2 : Nat} {H : zH} {Q : zQ} {r0 : Option Nat} {x1 : Int} {x2 : Int} (h : zEV xs L d b1 b2 false 142 (zblk 142 0) [some (Sum.inr (Sum.inr r0)), some (Sum.inl x1), some (Sum.inl x2), none] [] H Q) : zEm xs L d b1 b2 142 [Sum.inr (Sum.inr r0), Sum.inl x1, Sum.inl x2] H Q := ⟨Nat.le_of_ble_eq_true rfl, h⟩
theorem ze_143_0 : zblk 143 0 = zB_143_0 := rfl
theorem ze_143_46 : zblk 143 46 = zB_143_46 := rfl
theorem zem_143 {xs : Nat → Int} {L d b1 b2 : Nat} {H : zH} {Q : zQ} {r0 : Option Nat} {x1 : Int} {x2 : Int} (h : zEV xs L d b1 b2 false 143 (zblk 143 0) [some (Sum.inr (Sum.inr r0)), some (Sum.inl x1), some (Sum.inl x2)] [] H Q) : zEm xs L d b1 b2 143 [Sum.inr (Sum.inr r0), Sum.inl x1, Sum.inl x2] H Q := ⟨Nat.le_of_ble_eq_true rfl, h⟩
theorem ze_144_0 : zblk 144 0 = zB_144_0 := rfl
theorem ze_144_25 : zblk 144 25 = zB_144_25 := rfl
theorem ze_144_49 : zblk 144 49 = zB_144_49 := rfl
theorem ze_144_50 : zblk 144 50 = zB_144_50 := rfl
theorem ze_144_56 : zblk 144 56 = zB_144_56 := rfl
theorem ze_144_101 : zblk 144 101 = zB_144_101 := rfl
theorem ze_144_111 : zblk 144 111 = zB_144_111 := rfl
theorem ze_144_117 : zblk 144 117 = zB_144_117 := rfl
theorem zem_144 {xs : Nat → Int} {L d b1 b2 : Nat} {H : zH} {Q : zQ} {r0 : Option Nat} {x1 : Int} {x2 : Int} (h : zEV xs L d b1 b2 false 144 (zblk 144 0) [some (Sum.inr (Sum.inr r0)), some (Sum.inl x1), some (Sum.inl x2), none, none, none] [] H Q) : zEm xs L d b1 b2 144 [Sum.inr (Sum.inr r0), Sum.inl x1, Sum.inl x2] H Q := ⟨Nat.le_of_ble_eq_true rfl, h⟩
theorem ze_145_0 : zblk 145 0 = zB_145_0 := rfl
theorem ze_145_23 : zblk 145 23 = zB_145_23 := rfl
theorem ze_145_48 : zblk 145 48 = zB_145_48 := rfl
theorem zem_145 {xs : Nat → Int} {L d b1 b2 : Nat} {H : zH} {Q : zQ} {r0 : Option Nat} {x1 : Int} {x2 : Int} (h : zEV xs L d b1 b2 false 145 (zblk 145 0) [some (Sum.inr (Sum.inr r0)), some (Sum.inl x1), some (Sum.inl x2), none] [] H Q) : zEm xs L d b1 b2 145 [Sum.inr (Sum.inr r0), Sum.inl x1, Sum.inl x2] H Q := ⟨Nat.le_of_ble_eq_true rfl, h⟩
theorem ze_146_0 : zblk 146 0 = zB_146_0 := rfl
theorem ze_146_20 : zblk 146 20 = zB_146_20 := rfl
theorem ze_146_32 : zblk 146 32 = zB_146_32 := rfl
theorem ze_146_87 : zblk 146 87 = zB_146_87 := rfl
theorem ze_146_93 : zblk 146 93 = zB_146_93 := rfl
theorem ze_146_99 : zblk 146 99 = zB_146_99 := rfl
theorem zem_146 {xs : Nat → Int} {L d b1 b2 : Nat} {H : zH} {Q : zQ} {r0 : Option Nat} {x1 : Int} {x2 : Int} {x3 : Int} {x4 : Option Nat} (h : zEV xs L d b1 b2 false 146 (zblk 146 0) [some (Sum.inr (Sum.inr r0)), some (Sum.inl x1), some (Sum.inl x2), some (Sum.inl x3), some (Sum.inr (Sum.inr x4)), none, none, none] [] H Q) : zEm xs L d b1 b2 146 [Sum.inr (Sum.inr r0), Sum.inl x1, Sum.inl x2, Sum.inl x3, Sum.inr (Sum.inr x4)] H Q := ⟨Nat.le_of_ble_eq_true rfl, h⟩
theorem ze_147_0 : zblk 147 0 = zB_147_0 := rfl
theorem zem_147 {xs : Nat → Int} {L d b1 b2 : Nat} {H : zH} {Q : zQ} {x1 : Int} {x2 : Int} {x3 : Int} (h : zEV xs L d b1 b2 false 147 (zblk 147 0) [some (Sum.inl x1), some (Sum.inl x2), some (Sum.inl x3)] [] H Q) : zEm xs L d b1 b2 147 [Sum.inl x1, Sum.inl x2, Sum.inl x3] H Q := ⟨Nat.le_of_ble_eq_true rfl, h⟩
theorem ze_148_0 : zblk 148 0 = zB_148_0 := rfl
theorem ze_148_45 : zblk 148 45 = zB_148_45 := rfl
theorem ze_148_46 : zblk 148 46 = zB_148_46 := rfl
theorem zem_148 {xs : Nat → Int} {L d b1 b2 : Nat} {H : zH} {Q : zQ} {r0 : Option Nat} {x1 : Int} {x2 : Int} (h : zEV xs L d b1 b2 false 148 (zblk 148 0) [some (Sum.inr (Sum.inr r0)), some (Sum.inl x1), some (Sum.inl x2)] [] H Q) : zEm xs L d b1 b2 148 [Sum.inr (Sum.inr r0), Sum.inl x1, Sum.inl x2] H Q := ⟨Nat.le_of_ble_eq_true rfl, h⟩
theorem ze_149_0 : zblk 149 0 = zB_149_0 := rfl
theorem ze_149_33 : zblk 149 33 = zB_149_33 := rfl
theorem ze_149_66 : zblk 149 66 = zB_149_66 := rfl
theorem ze_149_70 : zblk 149 70 = zB_149_70 := rfl
theorem ze_149_71 : zblk 149 71 = zB_149_71 := rfl
theorem ze_149_72 : zblk 149 72 = zB_149_72 := rfl
theorem ze_149_75 : zblk 149 75 = zB_149_75 := rfl
theorem ze_149_136 : zblk 149 136 = zB_149_136 := rfl
theorem ze_149_137 : zblk 149 137 = zB_149_137 := rfl
theorem ze_149_138 : zblk 149 138 = zB_149_138 := rfl
theorem ze_149_144 : zblk 149 144 = zB_149_144 := rfl
theorem zem_149 {xs : Nat → Int} {L d b1 b2 : Nat} {H : zH} {Q : zQ} {r0 : Option Nat} {x1 : Int} {x2 : Int} {x3 : Option Nat} (h : zEV xs L d b1 b2 false 149 (zblk 149 0) [some (Sum.inr (Sum.inr r0)), some (Sum.inl x1), some (Sum.inl x2), some (Sum.inr (Sum.inr x3)), none, none, none] [] H Q) : zEm xs L d b1 b2 149 [Sum.inr (Sum.inr r0), Sum.inl x1, Sum.inl x2, Sum.inr (Sum.inr x3)] H Q := ⟨Nat.le_of_ble_eq_true rfl, h⟩
theorem ze_150_0 : zblk 150 0 = zB_150_0 := rfl
theorem ze_150_19 : zblk 150 19 = zB_150_19 := rfl
theorem ze_150_64 : zblk 150 64 = zB_150_64 := rfl
theorem ze_150_70 : zblk 150 70 = zB_150_70 := rfl
theorem zem_150 {xs : Nat → Int} {L d b1 b2 : Nat} {H : zH} {Q : zQ} {r0 : Option Nat} {x1 : Int} {x2 : Int} (h : zEV xs L d b1 b2 false 150 (zblk 150 0) [some (Sum.inr (Sum.inr r0)), some (Sum.inl x1), some (Sum.inl x2), none, none, none] [] H Q) : zEm xs L d b1 b2 150 [Sum.inr (Sum.inr r0), Sum.inl x1, Sum.inl x2] H Q := ⟨Nat.le_of_ble_eq_true rfl, h⟩
theorem ze_151_0 : zblk 151 0 = zB_151_0 := rfl
theorem ze_151_22 : zblk 151 22 = zB_151_22 := rfl
theorem ze_151_61 : zblk 151 61 = zB_151_61 := rfl
theorem ze_151_67 : zblk 151 67 = zB_151_67 := rfl
theorem zem_151 {xs : Nat → Int} {L d b1 b2 : Nat} {H : zH} {Q : zQ} {r0 : Option Nat} {x1 : Int} {x2 : Option Nat} (h : zEV xs L d b1 b2 false 151 (zblk 151 0) [some (Sum.inr (Sum.inr r0)), some (Sum.inl x1), some (Sum.inr (Sum.inr x2)), none, none, none] [] H Q) : zEm xs L d b1 b2 151 [Sum.inr (Sum.inr r0), Sum.inl x1, Sum.inr (Sum.inr x2)] H Q := ⟨Nat.le_of_ble_eq_true rfl, h⟩
theorem ze_152_0 : zblk 152 0 = zB_152_0 := rfl
theorem ze_152_7 : zblk 152 7 = zB_152_7 := rfl
theorem ze_152_55 : zblk 152 55 = zB_152_55 := rfl
theorem ze_152_105 : zblk 152 105 = zB_152_105 := rfl
theorem zem_152 {xs : Nat → Int} {L d b1 b2 : Nat} {H : zH} {Q : zQ} {r0 : Option Nat} {x1 : Int} {x2 : Option Nat} (h : zEV xs L d b1 b2 false 152 (zblk 152 0) [some (Sum.inr (Sum.inr r0)), some (Sum.inl x1), some (Sum.inr (Sum.inr x2)), none, none, none] [] H Q) : zEm xs L d b1 b2 152 [Sum.inr (Sum.inr r0), Sum.inl x1, Sum.inr (Sum.inr x2)] H Q := ⟨Nat.le_of_ble_eq_true rfl, h⟩
theorem ze_153_0 : zblk 153 0 = zB_153_0 := rfl
theorem ze_153_22 : zblk 153 22 = zB_153_22 := rfl
theorem ze_153_26 : zblk 153 26 = zB_153_26 := rfl
theorem ze_153_35 : zblk 153 35 = zB_153_35 := rfl
theorem zem_153 {xs : Nat → Int} {L d b1 b2 : Nat} {H : zH} {Q : zQ} {r0 : Option Nat} {x1 : Int} (h : zEV xs L d b1 b2 false 153 (zblk 153 0) [some (Sum.inr (Sum.inr r0)), some (Sum.inl x1)] [] H Q) : zEm xs L d b1 b2 153 [Sum.inr (Sum.inr r0), Sum.inl x1] H Q := ⟨Nat.le_of_ble_eq_true rfl, h⟩
theorem ze_154_0 : zblk 154 0 = zB_154_0 := rfl
theorem zem_154 {xs : Nat → Int} {L d b1 b2 : Nat} {H : zH} {Q : zQ} {r0 : Option Nat} {x1 : Int} {x2 : Int} (h : zEV xs L d b1 b2 false 154 (zblk 154 0) [some (Sum.inr (Sum.inr r0)), some (Sum.inl x1), some (Sum.inl x2)] [] H Q) : zEm xs L d b1 b2 154 [Sum.inr (Sum.inr r0), Sum.inl x1, Sum.inl x2] H Q := ⟨Nat.le_of_ble_eq_true rfl, h⟩
theorem ze_155_0 : zblk 155 0 = zB_155_0 := rfl
theorem ze_155_20 : zblk 155 20 = zB_155_20 := rfl
theorem ze_155_23 : zblk 155 23 = zB_155_23 := rfl
theorem zem_155 {xs : Nat → Int} {L d b1 b2 : Nat} {H : zH} {Q : zQ} {r0 : Option Nat} {x1 : Int} {x2 : Int} (h : zEV xs L d b1 b2 false 155 (zblk 155 0) [some (Sum.inr (Sum.inr r0)), some (Sum.inl x1), some (Sum.inl x2), none] [] H Q) : zEm xs L d b1 b2 155 [Sum.inr (Sum.inr r0), Sum.inl x1, Sum.inl x2] H Q := ⟨Nat.le_of_ble_eq_true rfl, h⟩
theorem ze_156_0 : zblk 156 0 = zB_156_0 := rfl
theorem zem_156 {xs : Nat → Int} {L d b1 b2 : Nat} {H : zH} {Q : zQ} {r0 : Option Nat} {x1 : Int} {x2 : Int} {x3 : Int} (h : zEV xs L d b1 b2 false 156 (zblk 156 0) [some (Sum.inr (Sum.inr r0)), some (Sum.inl x1), some (Sum.inl x2), some (Sum.inl x3)] [] H Q) : zEm xs L d b1 b2 156 [Sum.inr (Sum.inr r0), Sum.inl x1, Sum.inl x2, Sum.inl x3] H Q := ⟨Nat.le_of_ble_eq_true rfl, h⟩
theorem ze_157_0 : zblk 157 0 = zB_157_0 := rfl
theorem ze_157_25 : zblk 157 25 = zB_157_25 := rfl
theorem ze_157_28 : zblk 157 28 = zB_157_28 := rfl
theorem ze_157_37 : zblk 157 37 = zB_157_37 := rfl
theorem ze_157_40 : zblk 157 40 = zB_157_40 := rfl
theorem zem_157 {xs : Nat → Int} {L d b1 b2 : Nat} {H : zH} {Q : zQ} {r0 : Option Nat} {x1 : Int} {x2 : Int} {x3 : Int} (h : zEV xs L d b1 b2 false 157 (zblk 157 0) [some (Sum.inr (Sum.inr r0)), some (Sum.inl x1), some (Sum.inl x2), some (Sum.inl x3), none] [] H Q) : zEm xs L d b1 b2 157 [Sum.inr (Sum.inr r0), Sum.inl x1, Sum.inl x2, Sum.inl x3] H Q := ⟨Nat.le_of_ble_eq_true rfl, h⟩
theorem ze_158_0 : zblk 158 0 = zB_158_0 := rfl
theorem ze_158_15 : zblk 158 15 = zB_158_15 := rfl
theorem ze_158_19 : zblk 158 19 = zB_158_19 := rfl
theorem ze_158_31 : zblk 158 31 = zB_158_31 := rfl
theorem zem_158 {xs : Nat → Int} {L d b1 b2 : Nat} {H : zH} {Q : zQ} {r0 : Option Nat} {x1 : Int} (h : zEV xs L d b1 b2 false 158 (zblk 158 0) [some (Sum.inr (Sum.inr r0)), some (Sum.inl x1)] [] H Q) : zEm xs L d b1 b2 158 [Sum.inr (Sum.inr r0), Sum.inl x1] H Q := ⟨Nat.le_of_ble_eq_true rfl, h⟩
theorem ze_159_0 : zblk 159 0 = zB_159_0 := rfl
theorem ze_159_28 : zblk 159 28 = zB_159_28 := rfl
theorem ze_159_30 : zblk 159 30 = zB_159_30 := rfl
theorem ze_159_48 : zblk 159 48 = zB_159_48 := rfl
theorem ze_159_72 : zblk 159 72 = zB_159_72 := rfl
theorem ze_159_131 : zblk 159 131 = zB_159_131 := rfl
theorem ze_159_146 : zblk 159 146 = zB_159_146 := rfl
theorem ze_159_152 : zblk 159 152 = zB_159_152 := rfl
theorem zem_159 {xs : Nat → Int} {L d b1 b2 : Nat} {H : zH} {Q : zQ} {r0 : Option Nat} {x1 : Int} {x2 : Option Nat} (h : zEV xs L d b1 b2 false 159 (zblk 159 0) [some (Sum.inr (Sum.inr r0)), some (Sum.inl x1), some (Sum.inr (Sum.inr x2)), none, none, none, none, none, none, none] [] H Q) : zEm xs L d b1 b2 159 [Sum.inr (Sum.inr r0), Sum.inl x1, Sum.inr (Sum.inr x2)] H Q := ⟨Nat.le_of_ble_eq_true rfl, h⟩
theorem ze_160_0 : zblk 160 0 = zB_160_0 := rfl
theorem ze_160_17 : zblk 160 17 = zB_160_17 := rfl
theorem ze_160_30 : zblk 160 30 = zB_160_30 := rfl
theorem ze_160_58 : zblk 160 58 = zB_160_58 := rfl
theorem zem_160 {xs : Nat → Int} {L d b1 b2 : Nat} {H : zH} {Q : zQ} {r0 : Option Nat} {x1 : Int} {x2 : Int} (h : zEV xs L d b1 b2 false 160 (zblk 160 0) [some (Sum.inr (Sum.inr r0)), some (Sum.inl x1), some (Sum.inl x2), none, none] [] H Q) : zEm xs L d b1 b2 160 [Sum.inr (Sum.inr r0), Sum.inl x1, Sum.inl x2] H Q := ⟨Nat.le_of_ble_eq_true rfl, h⟩
theorem ze_161_0 : zblk 161 0 = zB_161_0 := rfl
theorem zem_161 {xs : Nat → Int} {L d b1 b2 : Nat} {H : zH} {Q : zQ} {r0 : Option Nat} (h : zEV xs L d b1 b2 false 161 (zblk 161 0) [some (Sum.inr (Sum.inr r0))] [] H Q) : zEm xs L d b1 b2 161 [Sum.inr (Sum.inr r0)] H Q := ⟨Nat.le_of_ble_eq_true rfl, h⟩
theorem ze_162_0 : zblk 162 0 = zB_162_0 := rfl
theorem ze_162_14 : zblk 162 14 = zB_162_14 := rfl
theorem ze_162_46 : zblk 162 46 = zB_162_46 := rfl
theorem ze_162_67 : zblk 162 67 = zB_162_67 := rfl
theorem ze_162_96 : zblk 162 96 = zB_162_96 := rfl
theorem ze_162_102 : zblk 162 102 = zB_162_102 := rfl
theorem zem_162 {xs : Nat → Int} {L d b1 b2 : Nat} {H : zH} {Q : zQ} {r0 : Option Nat} {x1 : Option Nat} (h : zEV xs L d b1 b2 false 162 (zblk 162 0) [some (Sum.inr (Sum.inr r0)), some (Sum.inr (Sum.inr x1)), none, none, none, none, none] [] H Q) : zEm xs L d b1 b2 162 [Sum.inr (Sum.inr r0), Sum.inr (Sum.inr x1)] H Q := ⟨Nat.le_of_ble_eq_true rfl, h⟩
theorem ze_163_0 : zblk 163 0 = zB_163_0 := rfl
theorem ze_163_13 : zblk 163 13 = zB_163_13 := rfl
theorem ze_163_29 : zblk 163 29 = zB_163_29 := rfl
theorem zem_163 {xs : Nat → Int} {L d b1 b2 : Nat} {H : zH} {Q : zQ} {r0 : Option Nat} {x1 : Int} (h : zEV xs L d b1 b2 false 163 (zblk 163 0) [some (Sum.inr (Sum.inr r0)), some (Sum.inl x1)] [] H Q) : zEm xs L d b1 b2 163 [Sum.inr (Sum.inr r0), Sum.inl x1] H Q := ⟨Nat.le_of_ble_eq_true rfl, h⟩
theorem ze_164_0 : zblk 164 0 = zB_164_0 := rfl
theorem ze_164_14 : zblk 164 14 = zB_164_14 := rfl
theorem ze_164_48 : zblk 164 48 = zB_164_48 := rfl
theorem ze_164_56 : zblk 164 56 = zB_164_56 := rfl
theorem ze_164_67 : zblk 164 67 = zB_164_67 := rfl
theorem ze_164_71 : zblk 164 71 = zB_164_71 := rfl
theorem zem_164 {xs : Nat → Int} {L d b1 b2 : Nat} {H : zH} {Q : zQ} {r0 : Option Nat} {x1 : Int} (h : zEV xs L d b1 b2 false 164 (zblk 164 0) [some (Sum.inr (Sum.inr r0)), some (Sum.inl x1), none, none, none, none, none, none, none] [] H Q) : zEm xs L d b1 b2 164 [Sum.inr (Sum.inr r0), Sum.inl x1] H Q := ⟨Nat.le_of_ble_eq_true rfl, h⟩
theorem ze_165_0 : zblk 165 0 = zB_165_0 := rfl
theorem ze_165_22 : zblk 165 22 = zB_165_22 := rfl
theorem ze_165_25 : zblk 165 25 = zB_165_25 := rfl
theorem zem_165 {xs : Nat → Int} {L d b1 b2 : Nat} {H : zH} {Q : zQ} {r0 : Option Nat} {x1 : Int} (h : zEV xs L d b1 b2 false 165 (zblk 165 0) [some (Sum.inr (Sum.inr r0)), some (Sum.inl x1)] [] H Q) : zEm xs L d b1 b2 165 [Sum.inr (Sum.inr r0), Sum.inl x1] H Q := ⟨Nat.le_of_ble_eq_true rfl, h⟩
theorem ze_166_0 : zblk 166 0 = zB_166_0 := rfl
theorem ze_166_9 : zblk 166 9 = zB_166_9 := rfl
theorem ze_166_36 : zblk 166 36 = zB_166_36 := rfl
theorem ze_166_45 : zblk 166 45 = zB_166_45 := rfl
theorem ze_166_98 : zblk 166 98 = zB_166_98 := rfl
theorem ze_166_109 : zblk 166 109 = zB_166_109 := rfl
theorem ze_166_115 : zblk 166 115 = zB_166_115 := rfl
theorem ze_166_122 : zblk 166 122 = zB_166_122 := rfl
theorem ze_166_125 : zblk 166 125 = zB_166_125 := rfl
theorem ze_166_164 : zblk 166 164 = zB_166_164 := rfl
theorem zem_166 {xs : Nat → Int} {L d b1 b2 : Nat} {H : zH} {Q : zQ} {r0 : Option Nat} {x1 : Int} {x2 : Option Nat} (h : zEV xs L d b1 b2 false 166 (zblk 166 0) [some (Sum.inr (Sum.inr r0)), some (Sum.inl x1), some (Sum.inr (Sum.inr x2)), none, none, none, none, none, none] [] H Q) : zEm xs L d b1 b2 166 [Sum.inr (Sum.inr r0), Sum.inl x1, Sum.inr (Sum.inr x2)] H Q := ⟨Nat.le_of_ble_eq_true rfl, h⟩
theorem ze_167_0 : zblk 167 0 = zB_167_0 := rfl
theorem ze_167_6 : zblk 167 6 = zB_167_6 := rfl
theorem ze_167_40 : zblk 167 40 = zB_167_40 := rfl
theorem ze_167_46 : zblk 167 46 = zB_167_46 := rfl
theorem zem_167 {xs : Nat → Int} {L d b1 b2 : Nat} {H : zH} {Q : zQ} {r0 : Option Nat} {x1 : Int} {x2 : Int} {x3 : Option Nat} (h : zEV xs L d b1 b2 false 167 (zblk 167 0) [some (Sum.inr (Sum.inr r0)), some (Sum.inl x1), some (Sum.inl x2), some (Sum.inr (Sum.inr x3)), none, none] [] H Q) : zEm xs L d b1 b2 167 [Sum.inr (Sum.inr r0), Sum.inl x1, Sum.inl x2, Sum.inr (Sum.inr x3)] H Q := ⟨Nat.le_of_ble_eq_true rfl, h⟩
theorem ze_168_0 : zblk 168 0 = zB_168_0 := rfl
theorem ze_168_15 : zblk 168 15 = zB_168_15 := rfl
theorem ze_168_19 : zblk 168 19 = zB_168_19 := rfl
theorem ze_168_28 : zblk 168 28 = zB_168_28 := rfl
theorem zem_168 {xs : Nat → Int} {L d b1 b2 : Nat} {H : zH} {Q : zQ} {r0 : Option Nat} {x1 : Int} (h : zEV xs L d b1 b2 false 168 (zblk 168 0) [some (Sum.inr (Sum.inr r0)), some (Sum.inl x1)] [] H Q) : zEm xs L d b1 b2 168 [Sum.inr (Sum.inr r0), Sum.inl x1] H Q := ⟨Nat.le_of_ble_eq_true rfl, h⟩
theorem ze_169_0 : zblk 169 0 = zB_169_0 := rfl
theorem ze_169_15 : zblk 169 15 = zB_169_15 := rfl
theorem ze_169_18 : zblk 169 18 = zB_169_18 := rfl
theorem ze_169_32 : zblk 169 32 = zB_169_32 := rfl
theorem zem_169 {xs : Nat → Int} {L d b1 b2 : Nat} {H : zH} {Q : zQ} {r0 : Option Nat} {x1 : Int} (h : zEV xs L d b1 b2 false 169 (zblk 169 0) [some (Sum.inr (Sum.inr r0)), some (Sum.inl x1), none] [] H Q) : zEm xs L d b1 b2 169 [Sum.inr (Sum.inr r0), Sum.inl x1] H Q := ⟨Nat.le_of_ble_eq_true rfl, h⟩
theorem ze_170_0 : zblk 170 0 = zB_170_0 := rfl
theorem ze_170_3 : zblk 170 3 = zB_170_3 := rfl
theorem ze_170_46 : zblk 170 46 = zB_170_46 := rfl
theorem zem_170 {xs : Nat → Int} {L d b1 b2 : Nat} {H : zH} {Q : zQ} {r0 : Option Nat} {x1 : Option Nat} {x2 : Int} {x3 : Option Nat} {x4 : Int} (h : zEV xs L d b1 b2 false 170 (zblk 170 0) [some (Sum.inr (Sum.inr r0)), some (Sum.inr (Sum.inr x1)), some (Sum.inl x2), some (Sum.inr (Sum.inr x3)), some (Sum.inl x4), none, none] [] H Q) : zEm xs L d b1 b2 170 [Sum.inr (Sum.inr r0), Sum.inr (Sum.inr x1), Sum.inl x2, Sum.inr (Sum.inr x3), Sum.inl x4] H Q := ⟨Nat.le_of_ble_eq_true rfl, h⟩
theorem ze_171_0 : zblk 171 0 = zB_171_0 := rfl
theorem zem_171 {xs : Nat → Int} {L d b1 b2 : Nat} {H : zH} {Q : zQ} {r0 : Option Nat} (h : zEV xs L d b1 b2 false 171 (zblk 171 0) [some (Sum.inr (Sum.inr r0))] [] H Q) : zEm xs L d b1 b2 171 [Sum.inr (Sum.inr r0)] H Q := ⟨Nat.le_of_ble_eq_true rfl, h⟩
theorem ze_172_0 : zblk 172 0 = zB_172_0 := rfl
theorem ze_172_4 : zblk 172 4 = zB_172_4 := rfl
theorem ze_172_26 : zblk 172 26 = zB_172_26 := rfl
theorem ze_172_27 : zblk 172 27 = zB_172_27 := rfl
theorem ze_172_35 : zblk 172 35 = zB_172_35 := rfl
theorem ze_172_61 : zblk 172 61 = zB_172_61 := rfl
theorem ze_172_85 : zblk 172 85 = zB_172_85 := rfl
theorem ze_172_90 : zblk 172 90 = zB_172_90 := rfl
theorem ze_172_124 : zblk 172 124 = zB_172_124 := rfl
theorem ze_172_125 : zblk 172 125 = zB_172_125 := rfl
theorem ze_172_158 : zblk 172 158 = zB_172_158 := rfl
theorem ze_172_161 : zblk 172 161 = zB_172_161 := rfl
theorem ze_172_167 : zblk 172 167 = zB_172_167 := rfl
theorem ze_172_173 : zblk 172 173 = zB_172_173 := rfl
theorem zem_172 {xs : Nat → Int} {L d b1 b2 : Nat} {H : zH} {Q : zQ} {r0 : Option Nat} {x1 : Option Nat} (h : zEV xs L d b1 b2 false 172 (zblk 172 0) [some (Sum.inr (Sum.inr r0)), some (Sum.inr (Sum.inr x1)), none, none, none, none] [] H Q) : zEm xs L d b1 b2 172 [Sum.inr (Sum.inr r0), Sum.inr (Sum.inr x1)] H Q := ⟨Nat.le_of_ble_eq_true rfl, h⟩
theorem ze_173_0 : zblk 173 0 = zB_173_0 := rfl
theorem ze_173_4 : zblk 173 4 = zB_173_4 := rfl
theorem ze_173_36 : zblk 173 36 = zB_173_36 := rfl
theorem zem_173 {xs : Nat → Int} {L d b1 b2 : Nat} {H : zH} {Q : zQ} {x1 : Option Nat} {x2 : Int} (h : zEV xs L d b1 b2 false 173 (zblk 173 0) [some (Sum.inr (Sum.inr x1)), some (Sum.inl x2), none, none] [] H Q) : zEm xs L d b1 b2 173 [Sum.inr (Sum.inr x1), Sum.inl x2] H Q := ⟨Nat.le_of_ble_eq_true rfl, h⟩
theorem ze_174_0 : zblk 174 0 = zB_174_0 := rfl
theorem ze_174_2 : zblk 174 2 = zB_174_2 := rfl
theorem ze_174_86 : zblk 174 86 = zB_174_86 := rfl
theorem ze_174_92 : zblk 174 92 = zB_174_92 := rfl
theorem zem_174 {xs : Nat → Int} {L d b1 b2 : Nat} {H : zH} {Q : zQ} {r0 : Option Nat} {x1 : Int} {x2 : Int} (h : zEV xs L d b1 b2 false 174 (zblk 174 0) [some (Sum.inr (Sum.inr r0)), some (Sum.inl x1), some (Sum.inl x2), none, none, none, none] [] H Q) : zEm xs L d b1 b2 174 [Sum.inr (Sum.inr r0), Sum.inl x1, Sum.inl x2] H Q := ⟨Nat.le_of_ble_eq_true rfl, h⟩
theorem ze_175_0 : zblk 175 0 = zB_175_0 := rfl
theorem ze_175_34 : zblk 175 34 = zB_175_34 := rfl
theorem ze_175_38 : zblk 175 38 = zB_175_38 := rfl
theorem ze_175_39 : zblk 175 39 = zB_175_39 := rfl
theorem zem_175 {xs : Nat → Int} {L d b1 b2 : Nat} {H : zH} {Q : zQ} {r0 : Option Nat} {x1 : Int} {x2 : Int} {x3 : Int} (h : zEV xs L d b1 b2 false 175 (zblk 175 0) [some (Sum.inr (Sum.inr r0)), some (Sum.inl x1), some (Sum.inr (Sum.inl x2)), none, some (Sum.inl x3)] [] H Q) : zEm xs L d b1 b2 175 [Sum.inr (Sum.inr r0), Sum.inl x1, Sum.inr (Sum.inl x2), Sum.inl x3] H Q := ⟨Nat.le_of_ble_eq_true rfl, h⟩
theorem ze_176_0 : zblk 176 0 = zB_176_0 := rfl
theorem zem_176 {xs : Nat → Int} {L d b1 b2 : Nat} {H : zH} {Q : zQ} {r0 : Option Nat} (h : zEV xs L d b1 b2 false 176 (zblk 176 0) [some (Sum.inr (Sum.inr r0))] [] H Q) : zEm xs L d b1 b2 176 [Sum.inr (Sum.inr r0)] H Q := ⟨Nat.le_of_ble_eq_true rfl, h⟩
theorem ze_177_0 : zblk 177 0 = zB_177_0 := rfl
theorem zem_177 {xs : Nat → Int} {L d b1 b2 : Nat} {H : zH} {Q : zQ} {r0 : Option Nat} {x1 : Int} {x2 : Int} (h : zEV xs L d b1 b2 false 177 (zblk 177 0) [some (Sum.inr (Sum.inr r0)), some (Sum.inl x1), some (Sum.inl x2), none] [] H Q) : zEm xs L d b1 b2 177 [Sum.inr (Sum.inr r0), Sum.inl x1, Sum.inl x2] H Q := ⟨Nat.le_of_ble_eq_true rfl, h⟩
theorem ze_178_0 : zblk 178 0 = zB_178_0 := rfl
theorem ze_178_14 : zblk 178 14 = zB_178_14 := rfl
theorem ze_178_17 : zblk 178 17 = zB_178_17 := rfl
theorem ze_178_42 : zblk 178 42 = zB_178_42 := rfl
theorem ze_178_51 : zblk 178 51 = zB_178_51 := rfl
theorem ze_178_63 : zblk 178 63 = zB_178_63 := rfl
theorem ze_178_86 : zblk 178 86 = zB_178_86 := rfl
theorem ze_178_124 : zblk 178 124 = zB_178_124 := rfl
theorem zem_178 {xs : Nat → Int} {L d b1 b2 : Nat} {H : zH} {Q : zQ} {r0 : Option Nat} {x1 : Int} {x2 : Int} {x3 : Option Nat} (h : zEV xs L d b1 b2 false 178 (zblk 178 0) [some (Sum.inr (Sum.inr r0)), some (Sum.inl x1), some (Sum.inl x2), some (Sum.inr (Sum.inr x3)), none] [] H Q) : zEm xs L d b1 b2 178 [Sum.inr (Sum.inr r0), Sum.inl x1, Sum.inl x2, Sum.inr (Sum.inr x3)] H Q := ⟨Nat.le_of_ble_eq_true rfl, h⟩
theorem ze_179_0 : zblk 179 0 = zB_179_0 := rfl
theorem ze_179_15 : zblk 179 15 = zB_179_15 := rfl
theorem ze_179_16 : zblk 179 16 = zB_179_16 := rfl
theorem zem_179 {xs : Nat → Int} {L d b1 b2 : Nat} {H : zH} {Q : zQ} {x1 : Int} (h : zEV xs L d b1 b2 false 179 (zblk 179 0) [some (Sum.inl x1)] [] H Q) : zEm xs L d b1 b2 179 [Sum.inl x1] H Q := ⟨Nat.le_of_ble_eq_true rfl, h⟩
theorem ze_180_0 : zblk 180 0 = zB_180_0 := rfl
theorem zem_180 {xs : Nat → Int} {L d b1 b2 : Nat} {H : zH} {Q : zQ} {r0 : Option Nat} {x1 : Int} {x2 : Int} {x3 : Int} (h : zEV xs L d b1 b2 false 180 (zblk 180 0) [some (Sum.inr (Sum.inr r0)), some (Sum.inl x1), some (Sum.inl x2), some (Sum.inl x3)] [] H Q) : zEm xs L d b1 b2 180 [Sum.inr (Sum.inr r0), Sum.inl x1, Sum.inl x2, Sum.inl x3] H Q := ⟨Nat.le_of_ble_eq_true rfl, h⟩
theorem ze_181_0 : zblk 181 0 = zB_181_0 := rfl
theorem ze_181_24 : zblk 181 24 = zB_181_24 := rfl
theorem ze_181_27 : zblk 181 27 = zB_181_27 := rfl
theorem ze_181_33 : zblk 181 33 = zB_181_33 := rfl
theorem ze_181_68 : zblk 181 68 = zB_181_68 := rfl
theorem ze_181_69 : zblk 181 69 = zB_181_69 := rfl
theorem ze_181_98 : zblk 181 98 = zB_181_98 := rfl
theorem ze_181_102 : zblk 181 102 = zB_181_102 := rfl
theorem ze_181_108 : zblk 181 108 = zB_181_108 := rfl
theorem ze_181_117 : zblk 181 117 = zB_181_117 := rfl
theorem ze_181_129 : zblk 181 129 = zB_181_129 := rfl
theorem zem_181 {xs : Nat → Int} {L d b1 b2 : Nat} {H : zH} {Q : zQ} {r0 : Option Nat} {x1 : Int} {x2 : Int} {x3 : Int} (h : zEV xs L d b1 b2 false 181 (zblk 181 0) [some (Sum.inr (Sum.inr r0)), some (Sum.inl x1), some (Sum.inl x2), some (Sum.inl x3), none, none, none] [] H Q) : zEm xs L d b1 b2 181 [Sum.inr (Sum.inr r0), Sum.inl x1, Sum.inl x2, Sum.inl x3] H Q := ⟨Nat.le_of_ble_eq_true rfl, h⟩
theorem ze_182_0 : zblk 182 0 = zB_182_0 := rfl
theorem ze_182_15 : zblk 182 15 = zB_182_15 := rfl
theorem ze_182_18 : zblk 182 18 = zB_182_18 := rfl
theorem ze_182_31 : zblk 182 31 = zB_182_31 := rfl
theorem zem_182 {xs : Nat → Int} {L d b1 b2 : Nat} {H : zH} {Q : zQ} {r0 : Option Nat} {x1 : Int} (h : zEV xs L d b1 b2 false 182 (zblk 182 0) [some (Sum.inr (Sum.inr r0)), some (Sum.inl x1)] [] H Q) : zEm xs L d b1 b2 182 [Sum.inr (Sum.inr r0), Sum.inl x1] H Q := ⟨Nat.le_of_ble_eq_true rfl, h⟩
theorem ze_183_0 : zblk 183 0 = zB_183_0 := rfl
theorem ze_183_19 : zblk 183 19 = zB_183_19 := rfl
theorem ze_183_22 : zblk 183 22 = zB_183_22 := rfl
theorem zem_183 {xs : Nat → Int} {L d b1 b2 : Nat} {H : zH} {Q : zQ} {r0 : Option Nat} {x1 : Int} {x2 : Int} (h : zEV xs L d b1 b2 false 183 (zblk 183 0) [some (Sum.inr (Sum.inr r0)), some (Sum.inl x1), some (Sum.inl x2)] [] H Q) : zEm xs L d b1 b2 183 [Sum.inr (Sum.inr r0), Sum.inl x1, Sum.inl x2] H Q := ⟨Nat.le_of_ble_eq_true rfl, h⟩
theorem ze_184_0 : zblk 184 0 = zB_184_0 := rfl
theorem ze_184_13 : zblk 184 13 = zB_184_13 := rfl
theorem zem_184 {xs : Nat → Int} {L d b1 b2 : Nat} {H : zH} {Q : zQ} {r0 : Option Nat} {x1 : Int} {x2 : Int} (h : zEV xs L d b1 b2 false 184 (zblk 184 0) [some (Sum.inr (Sum.inr r0)), some (Sum.inl x1), some (Sum.inl x2)] [] H Q) : zEm xs L d b1 b2 184 [Sum.inr (Sum.inr r0), Sum.inl x1, Sum.inl x2] H Q := ⟨Nat.le_of_ble_eq_true rfl, h⟩
theorem ze_185_0 : zblk 185 0 = zB_185_0 := rfl
theorem ze_185_30 : zblk 185 30 = zB_185_30 := rfl
theorem ze_185_33 : zblk 185 33 = zB_185_33 := rfl
theorem zem_185 {xs : Nat → Int} {L d b1 b2 : Nat} {H : zH} {Q : zQ} {r0 : Option Nat} {x1 : Int} {x2 : Int} (h : zEV xs L d b1 b2 false 185 (zblk 185 0) [some (Sum.inr (Sum.inr r0)), some (Sum.inl x1), some (Sum.inl x2)] [] H Q) : zEm xs L d b1 b2 185 [Sum.inr (Sum.inr r0), Sum.inl x1, Sum.inl x2] H Q := ⟨Nat.le_of_ble_eq_true rfl, h⟩
theorem ze_186_0 : zblk 186 0 = zB_186_0 := rfl
theorem zem_186 {xs : Nat → Int} {L d b1 b2 : Nat} {H : zH} {Q : zQ} {r0 : Option Nat} {x1 : Int} {x2 : Int} {x3 : Int} (h : zEV xs L d b1 b2 false 186 (zblk 186 0) [some (Sum.inr (Sum.inr r0)), some (Sum.inl x1), some (Sum.inl x2), some (Sum.inl x3)] [] H Q) : zEm xs L d b1 b2 186 [Sum.inr (Sum.inr r0), Sum.inl x1, Sum.inl x2, Sum.inl x3] H Q := ⟨Nat.le_of_ble_eq_true rfl, h⟩
theorem ze_187_0 : zblk 187 0 = zB_187_0 := rfl
theorem ze_187_30 : zblk 187 30 = zB_187_30 := rfl
theorem ze_187_33 : zblk 187 33 = zB_187_33 := rfl
theorem ze_187_64 : zblk 187 64 = zB_187_64 := rfl
theorem ze_187_77 : zblk 187 77 = zB_187_77 := rfl
theorem ze_187_84 : zblk 187 84 = zB_187_84 := rfl
theorem ze_187_109 : zblk 187 109 = zB_187_109 := rfl
theorem ze_187_110 : zblk 187 110 = zB_187_110 := rfl
theorem ze_187_111 : zblk 187 111 = zB_187_111 := rfl
theorem ze_187_118 : zblk 187 118 = zB_187_118 := rfl
theorem zem_187 {xs : Nat → Int} {L d b1 b2 : Nat} {H : zH} {Q : zQ} {r0 : Option Nat} {x1 : Int} {x2 : Int} {x3 : Int} (h : zEV xs L d b1 b2 false 187 (zblk 187 0) [some (Sum.inr (Sum.inr r0)), some (Sum.inl x1), some (Sum.inl x2), some (Sum.inl x3)] [] H Q) : zEm xs L d b1 b2 187 [Sum.inr (Sum.inr r0), Sum.inl x1, Sum.inl x2, Sum.inl x3] H Q := ⟨Nat.le_of_ble_eq_true rfl, h⟩
theorem ze_188_0 : zblk 188 0 = zB_188_0 := rfl
theorem ze_188_4 : zblk 188 4 = zB_188_4 := rfl
theorem ze_188_45 : zblk 188 45 = zB_188_45 := rfl
theorem zem_188 {xs : Nat → Int} {L d b1 b2 : Nat} {H : zH} {Q : zQ} {r0 : Option Nat} {x1 : Int} (h : zEV xs L d b1 b2 false 188 (zblk 188 0) [some (Sum.inr (Sum.inr r0)), some (Sum.inl x1), none, none] [] H Q) : zEm xs L d b1 b2 188 [Sum.inr (Sum.inr r0), Sum.inl x1] H Q := ⟨Nat.le_of_ble_eq_true rfl, h⟩
theorem ze_189_0 : zblk 189 0 = zB_189_0 := rfl
theorem zem_189 {xs : Nat → Int} {L d b1 b2 : Nat} {H : zH} {Q : zQ} {r0 : Option Nat} {x1 : Int} {x2 : Int} (h : zEV xs L d b1 b2 false 189 (zblk 189 0) [some (Sum.inr (Sum.inr r0)), some (Sum.inl x1), some (Sum.inl x2)] [] H Q) : zEm xs L d b1 b2 189 [Sum.inr (Sum.inr r0), Sum.inl x1, Sum.inl x2] H Q := ⟨Nat.le_of_ble_eq_true rfl, h⟩
theorem ze_190_0 : zblk 190 0 = zB_190_0 := rfl
theorem ze_190_12 : zblk 190 12 = zB_190_12 := rfl
theorem ze_190_15 : zblk 190 15 = zB_190_15 := rfl
theorem ze_190_29 : zblk 190 29 = zB_190_29 := rfl
theorem ze_190_41 : zblk 190 41 = zB_190_41 := rfl
theorem ze_190_57 : zblk 190 57 = zB_190_57 := rfl
theorem ze_190_85 : zblk 190 85 = zB_190_85 := rfl
theorem zem_190 {xs : Nat → Int} {L d b1 b2 : Nat} {H : zH} {Q : zQ} {r0 : Option Nat} {x1 : Int} {x2 : Int} {x3 : Int} (h : zEV xs L d b1 b2 false 190 (zblk 190 0) [some (Sum.inr (Sum.inr r0)), some (Sum.inl x1), some (Sum.inl x2), some (Sum.inl x3), none] [] H Q) : zEm xs L d b1 b2 190 [Sum.inr (Sum.inr r0), Sum.inl x1, Sum.inl x2, Sum.inl x3] H Q := ⟨Nat.le_of_ble_eq_true rfl, h⟩
theorem ze_191_0 : zblk 191 0 = zB_191_0 := rfl
theorem ze_191_4 : zblk 191 4 = zB_191_4 := rfl
theorem ze_191_29 : zblk 191 29 = zB_191_29 := rfl
theorem ze_191_30 : zblk 191 30 = zB_191_30 := rfl
theorem ze_191_38 : zblk 191 38 = zB_191_38 := rfl
theorem zem_191 {xs : Nat → Int} {L d b1 b2 : Nat} {H : zH} {Q : zQ} {r0 : Option Nat} {x1 : Int} (h : zEV xs L d b1 b2 false 191 (zblk 191 0) [some (Sum.inr (Sum.inr r0)), some (Sum.inl x1), none, none] [] H Q) : zEm xs L d b1 b2 191 [Sum.inr (Sum.inr r0), Sum.inl x1] H Q := ⟨Nat.le_of_ble_eq_true rfl, h⟩
theorem ze_192_0 : zblk 192 0 = zB_192_0 := rfl
theorem ze_192_5 : zblk 192 5 = zB_192_5 := rfl
theorem ze_192_24 : zblk 192 24 = zB_192_24 := rfl
theorem ze_192_25 : zblk 192 25 = zB_192_25 := rfl
theorem ze_192_33 : zblk 192 33 = zB_192_33 := rfl
theorem zem_192 {xs : Nat → Int} {L d b1 b2 : Nat} {H : zH} {Q : zQ} {x1 : Option Nat} {x2 : Int} {x3 : Int} (h : zEV xs L d b1 b2 false 192 (zblk 192 0) [some (Sum.inr (Sum.inr x1)), some (Sum.inl x2), some (Sum.inl x3), none, none] [] H Q) : zEm xs L d b1 b2 192 [Sum.inr (Sum.inr x1), Sum.inl x2, Sum.inl x3] H Q := ⟨Nat.le_of_ble_eq_true rfl, h⟩
theorem ze_193_0 : zblk 193 0 = zB_193_0 := rfl
theorem ze_193_22 : zblk 193 22 = zB_193_22 := rfl
theorem ze_193_25 : zblk 193 25 = zB_193_25 := rfl
theorem ze_193_36 : zblk 193 36 = zB_193_36 := rfl
theorem ze_193_55 : zblk 193 55 = zB_193_55 := rfl
theorem ze_193_83 : zblk 193 83 = zB_193_83 := rfl
theorem ze_193_126 : zblk 193 126 = zB_193_126 := rfl
theorem ze_193_129 : zblk 193 129 = zB_193_129 := rfl
theorem zem_193 {xs : Nat → Int} {L d b1 b2 : Nat} {H : zH} {Q : zQ} {r0 : Option Nat} {x1 : Int} (h : zEV xs L d b1 b2 false 193 (zblk 193 0) [some (Sum.inr (Sum.inr r0)), some (Sum.inl x1), none, none] [] H Q) : zEm xs L d b1 b2 193 [Sum.inr (Sum.inr r0), Sum.inl x1] H Q := ⟨Nat.le_of_ble_eq_true rfl, h⟩
theorem ze_194_0 : zblk 194 0 = zB_194_0 := rfl
theorem ze_194_21 : zblk 194 21 = zB_194_21 := rfl
theorem ze_194_47 : zblk 194 47 = zB_194_47 := rfl
theorem zem_194 {xs : Nat → Int} {L d b1 b2 : Nat} {H : zH} {Q : zQ} {r0 : Option Nat} (h : zEV xs L d b1 b2 false 194 (zblk 194 0) [some (Sum.inr (Sum.inr r0)), none, none] [] H Q) : zEm xs L d b1 b2 194 [Sum.inr (Sum.inr r0)] H Q := ⟨Nat.le_of_ble_eq_true rfl, h⟩
theorem ze_195_0 : zblk 195 0 = zB_195_0 := rfl
theorem ze_195_56 : zblk 195 56 = zB_195_56 := rfl
theorem ze_195_64 : zblk 195 64 = zB_195_64 := rfl
theorem ze_195_72 : zblk 195 72 = zB_195_72 := rfl
theorem ze_195_80 : zblk 195 80 = zB_195_80 := rfl
theorem ze_195_88 : zblk 195 88 = zB_195_88 := rfl
theorem ze_195_96 : zblk 195 96 = zB_195_96 := rfl
theorem ze_195_108 : zblk 195 108 = zB_195_108 := rfl
theorem ze_195_116 : zblk 195 116 = zB_195_116 := rfl
theorem ze_195_124 : zblk 195 124 = zB_195_124 := rfl
theorem ze_195_132 : zblk 195 132 = zB_195_132 := rfl
theorem ze_195_140 : zblk 195 140 = zB_195_140 := rfl
theorem zem_195 {xs : Nat → Int} {L d b1 b2 : Nat} {H : zH} {Q : zQ} {r0 : Option Nat} {x1 : Int} (h : zEV xs L d b1 b2 false 195 (zblk 195 0) [some (Sum.inr (Sum.inr r0)), some (Sum.inl x1)] [] H Q) : zEm xs L d b1 b2 195 [Sum.inr (Sum.inr r0), Sum.inl x1] H Q := ⟨Nat.le_of_ble_eq_true rfl, h⟩
theorem ze_196_0 : zblk 196 0 = zB_196_0 := rfl
theorem ze_196_4 : zblk 196 4 = zB_196_4 := rfl
theorem ze_196_24 : zblk 196 24 = zB_196_24 := rfl
theorem ze_196_25 : zblk 196 25 = zB_196_25 := rfl
theorem ze_196_33 : zblk 196 33 = zB_196_33 := rfl
theorem zem_196 {xs : Nat → Int} {L d b1 b2 : Nat} {H : zH} {Q : zQ} {r0 : Option Nat} (h : zEV xs L d b1 b2 false 196 (zblk 196 0) [some (Sum.inr (Sum.inr r0)), none, none] [] H Q) : zEm xs L d b1 b2 196 [Sum.inr (Sum.inr r0)] H Q := ⟨Nat.le_of_ble_eq_true rfl, h⟩
theorem ze_197_0 : zblk 197 0 = zB_197_0 := rfl
theorem ze_197_499 : zblk 197 499 = zB_197_499 := rfl
theorem ze_197_521 : zblk 197 521 = zB_197_521 := rfl
theorem ze_197_545 : zblk 197 545 = zB_197_545 := rfl
theorem ze_197_551 : zblk 197 551 = zB_197_551 := rfl
theorem ze_197_553 : zblk 197 553 = zB_197_553 := rfl
theorem ze_197_579 : zblk 197 579 = zB_197_579 := rfl
theorem zem_197 {xs : Nat → Int} {L d b1 b2 : Nat} {H : zH} {Q : zQ} {r0 : Option Nat} (h : zEV xs L d b1 b2 false 197 (zblk 197 0) [some (Sum.inr (Sum.inr r0)), none, none] [] H Q) : zEm xs L d b1 b2 197 [Sum.inr (Sum.inr r0)] H Q := ⟨Nat.le_of_ble_eq_true rfl, h⟩
theorem ze_198_0 : zblk 198 0 = zB_198_0 := rfl
theorem ze_198_16 : zblk 198 16 = zB_198_16 := rfl
theorem ze_198_19 : zblk 198 19 = zB_198_19 := rfl
theorem ze_198_34 : zblk 198 34 = zB_198_34 := rfl
theorem ze_198_44 : zblk 198 44 = zB_198_44 := rfl
theorem ze_198_54 : zblk 198 54 = zB_198_54 := rfl
theorem ze_198_65 : zblk 198 65 = zB_198_65 := rfl
theorem ze_198_67 : zblk 198 67 = zB_198_67 := rfl
theorem ze_198_73 : zblk 198 73 = zB_198_73 := rfl
theorem ze_198_109 : zblk 198 109 = zB_198_109 := rfl
theorem ze_198_115 : zblk 198 115 = zB_198_115 := rfl
theorem zem_198 {xs : Nat → Int} {L d b1 b2 : Nat} {H : zH} {Q : zQ} {r0 : Option Nat} {x1 : Int} {x2 : Int} {x3 : Int} {x4 : Int} {x5 : Int} (h : zEV xs L d b1 b2 false 198 (zblk 198 0) [some (Sum.inr (Sum.inr r0)), some (Sum.inl x1), some (Sum.inl x2), some (Sum.inl x3), some (Sum.inl x4), some (Sum.inl x5), none, none, none] [] H Q) : zEm xs L d b1 b2 198 [Sum.inr (Sum.inr r0), Sum.inl x1, Sum.inl x2, Sum.inl x3, Sum.inl x4, Sum.inl x5] H Q := ⟨Nat.le_of_ble_eq_true rfl, h⟩
theorem ze_199_0 : zblk 199 0 = zB_199_0 := rfl
theorem ze_199_12 : zblk 199 12 = zB_199_12 := rfl
theorem ze_199_14 : zblk 199 14 = zB_199_14 := rfl
theorem zem_199 {xs : Nat → Int} {L d b1 b2 : Nat} {H : zH} {Q : zQ} {r0 : Option Nat} {x1 : Int} (h : zEV xs L d b1 b2 false 199 (zblk 199 0) [some (Sum.inr (Sum.inr r0)), some (Sum.inl x1)] [] H Q) : zEm xs L d b1 b2 199 [Sum.inr (Sum.inr r0), Sum.inl x1] H Q := ⟨Nat.le_of_ble_eq_true rfl, h⟩
theorem ze_200_0 : zblk 200 0 = zB_200_0 := rfl
theorem ze_200_20 : zblk 200 20 = zB_200_20 := rfl
theorem ze_200_32 : zblk 200 32 = zB_200_32 := rfl
theorem ze_200_34 : zblk 200 34 = zB_200_34 := rfl
theorem ze_200_57 : zblk 200 57 = zB_200_57 := rfl
theorem ze_200_63 : zblk 200 63 = zB_200_63 := rfl
theorem ze_200_83 : zblk 200 83 = zB_200_83 := rfl
theorem ze_200_86 : zblk 200 86 = zB_200_86 := rfl
theorem ze_200_117 : zblk 200 117 = zB_200_117 := rfl
theorem zem_200 {xs : Nat → Int} {L d b1 b2 : Nat} {H : zH} {Q : zQ} {r0 : Option Nat} {x1 : Int} (h : zEV xs L d b1 b2 false 200 (zblk 200 0) [some (Sum.inr (Sum.inr r0)), some (Sum.inl x1), none, none, none] [] H Q) : zEm xs L d b1 b2 200 [Sum.inr (Sum.inr r0), Sum.inl x1] H Q := ⟨Nat.le_of_ble_eq_true rfl, h⟩
theorem ze_201_0 : zblk 201 0 = zB_201_0 := rfl
theorem zem_201 {xs : Nat → Int} {L d b1 b2 : Nat} {H : zH} {Q : zQ} {x1 : Int} (h : zEV xs L d b1 b2 false 201 (zblk 201 0) [some (Sum.inl x1)] [] H Q) : zEm xs L d b1 b2 201 [Sum.inl x1] H Q := ⟨Nat.le_of_ble_eq_true rfl, h⟩
theorem ze_202_0 : zblk 202 0 = zB_202_0 := rfl
theorem ze_202_14 : zblk 202 14 = zB_202_14 := rfl
theorem ze_202_15 : zblk 202 15 = zB_202_15 := rfl
theorem zem_202 {xs : Nat → Int} {L d b1 b2 : Nat} {H : zH} {Q : zQ} {x1 : Int} {x2 : Int} {x3 : Int} (h : zEV xs L d b1 b2 false 202 (zblk 202 0) [some (Sum.inl x1), some (Sum.inl x2), some (Sum.inl x3)] [] H Q) : zEm xs L d b1 b2 202 [Sum.inl x1, Sum.inl x2, Sum.inl x3] H Q := ⟨Nat.le_of_ble_eq_true rfl, h⟩
theorem ze_203_0 : zblk 203 0 = zB_203_0 := rfl
theorem ze_203_2 : zblk 203 2 = zB_203_2 := rfl
theorem ze_203_26 : zblk 203 26 = zB_203_26 := rfl
theorem ze_203_27 : zblk 203 27 = zB_203_27 := rfl
theorem ze_203_32 : zblk 203 32 = zB_203_32 := rfl
theorem ze_203_74 : zblk 203 74 = zB_203_74 := rfl
theorem ze_203_75 : zblk 203 75 = zB_203_75 := rfl
theorem ze_203_83 : zblk 203 83 = zB_203_83 := rfl
theorem ze_203_90 : zblk 203 90 = zB_203_90 := rfl
theorem ze_203_96 : zblk 203 96 = zB_203_96 := rfl
theorem zem_203 {xs : Nat → Int} {L d b1 b2 : Nat} {H : zH} {Q : zQ} {r0 : Option Nat} {x1 : Int} {x2 : Int} (h : zEV xs L d b1 b2 false 203 (zblk 203 0) [some (Sum.inr (Sum.inr r0)), some (Sum.inl x1), some (Sum.inl x2), none, none, none] [] H Q) : zEm xs L d b1 b2 203 [Sum.inr (Sum.inr r0), Sum.inl x1, Sum.inl x2] H Q := ⟨Nat.le_of_ble_eq_true rfl, h⟩
theorem ze_204_0 : zblk 204 0 = zB_204_0 := rfl
theorem ze_204_19 : zblk 204 19 = zB_204_19 := rfl
theorem ze_204_20 : zblk 204 20 = zB_204_20 := rfl
theorem zem_204 {xs : Nat → Int} {L d b1 b2 : Nat} {H : zH} {Q : zQ} {x1 : Int} (h : zEV xs L d b1 b2 false 204 (zblk 204 0) [some (Sum.inl x1)] [] H Q) : zEm xs L d b1 b2 204 [Sum.inl x1] H Q := ⟨Nat.le_of_ble_eq_true rfl, h⟩
theorem ze_205_0 : zblk 205 0 = zB_205_0 := rfl
theorem ze_205_37 : zblk 205 37 = zB_205_37 := rfl
theorem ze_205_38 : zblk 205 38 = zB_205_38 := rfl
theorem zem_205 {xs : Nat → Int} {L d b1 b2 : Nat} {H : zH} {Q : zQ} {r0 : Option Nat} {x1 : Int} {x2 : Int} (h : zEV xs L d b1 b2 false 205 (zblk 205 0) [some (Sum.inr (Sum.inr r0)), some (Sum.inl x1), some (Sum.inl x2)] [] H Q) : zEm xs L d b1 b2 205 [Sum.inr (Sum.inr r0), Sum.inl x1, Sum.inl x2] H Q := ⟨Nat.le_of_ble_eq_true rfl, h⟩
theorem ze_206_0 : zblk 206 0 = zB_206_0 := rfl
theorem ze_206_14 : zblk 206 14 = zB_206_14 := rfl
theorem ze_206_17 : zblk 206 17 = zB_206_17 := rfl
theorem ze_206_52 : zblk 206 52 = zB_206_52 := rfl
theorem ze_206_53 : zblk 206 53 = zB_206_53 := rfl
theorem zem_206 {xs : Nat → Int} {L d b1 b2 : Nat} {H : zH} {Q : zQ} {r0 : Option Nat} {x1 : Int} {x2 : Int} {x3 : Int} (h : zEV xs L d b1 b2 false 206 (zblk 206 0) [some (Sum.inr (Sum.inr r0)), some (Sum.inl x1), some (Sum.inl x2), some (Sum.inl x3), none] [] H Q) : zEm xs L d b1 b2 206 [Sum.inr (Sum.inr r0), Sum.inl x1, Sum.inl x2, Sum.inl x3] H Q := ⟨Nat.le_of_ble_eq_true rfl, h⟩
theorem ze_207_0 : zblk 207 0 = zB_207_0 := rfl
theorem ze_207_10 : zblk 207 10 = zB_207_10 := rfl
theorem ze_207_33 : zblk 207 33 = zB_207_33 := rfl
theorem ze_207_34 : zblk 207 34 = zB_207_34 := rfl
theorem zem_207 {xs : Nat → Int} {L d b1 b2 : Nat} {H : zH} {Q : zQ} {r0 : Option Nat} {x1 : Int} {x2 : Int} (h : zEV xs L d b1 b2 false 207 (zblk 207 0) [some (Sum.inr (Sum.inr r0)), some (Sum.inl x1), some (Sum.inl x2), none] [] H Q) : zEm xs L d b1 b2 207 [Sum.inr (Sum.inr r0), Sum.inl x1, Sum.inl x2] H Q := ⟨Nat.le_of_ble_eq_true rfl, h⟩
theorem ze_208_0 : zblk 208 0 = zB_208_0 := rfl
theorem ze_208_14 : zblk 208 14 = zB_208_14 := rfl
theorem ze_208_55 : zblk 208 55 = zB_208_55 := rfl
theorem ze_208_61 : zblk 208 61 = zB_208_61 := rfl
theorem ze_208_74 : zblk 208 74 = zB_208_74 := rfl
theorem ze_208_76 : zblk 208 76 = zB_208_76 := rfl
theorem ze_208_78 : zblk 208 78 = zB_208_78 := rfl
theorem ze_208_105 : zblk 208 105 = zB_208_105 := rfl
theorem zem_208 {xs : Nat → Int} {L d b1 b2 : Nat} {H : zH} {Q : zQ} {r0 : Option Nat} (h : zEV xs L d b1 b2 false 208 (zblk 208 0) [some (Sum.inr (Sum.inr r0)), none, none, none] [] H Q) : zEm xs L d b1 b2 208 [Sum.inr (Sum.inr r0)] H Q := ⟨Nat.le_of_ble_eq_true rfl, h⟩
theorem ze_209_0 : zblk 209 0 = zB_209_0 := rfl
theorem ze_209_16 : zblk 209 16 = zB_209_16 := rfl
theorem ze_209_18 : zblk 209 18 = zB_209_18 := rfl
theorem zem_209 {xs : Nat → Int} {L d b1 b2 : Nat} {H : zH} {Q : zQ} {r0 : Option Nat} {x1 : Int} (h : zEV xs L d b1 b2 false 209 (zblk 209 0) [some (Sum.inr (Sum.inr r0)), some (Sum.inl x1)] [] H Q) : zEm xs L d b1 b2 209 [Sum.inr (Sum.inr r0), Sum.inl x1] H Q := ⟨Nat.le_of_ble_eq_true rfl, h⟩
theorem ze_210_0 : zblk 210 0 = zB_210_0 := rfl
theorem ze_210_12 : zblk 210 12 = zB_210_12 := rfl
theorem ze_210_46 : zblk 210 46 = zB_210_46 := rfl
theorem ze_210_52 : zblk 210 52 = zB_210_52 := rfl
theorem ze_210_56 : zblk 210 56 = zB_210_56 := rfl
theorem ze_210_64 : zblk 210 64 = zB_210_64 := rfl
theorem ze_210_89 : zblk 210 89 = zB_210_89 := rfl
theorem ze_210_117 : zblk 210 117 = zB_210_117 := rfl
theorem ze_210_125 : zblk 210 125 = zB_210_125 := rfl
theorem ze_210_133 : zblk 210 133 = zB_210_133 := rfl
theorem ze_210_159 : zblk 210 159 = zB_210_159 := rfl
theorem zem_210 {xs : Nat → Int} {L d b1 b2 : Nat} {H : zH} {Q : zQ} {r0 : Option Nat} (h : zEV xs L d b1 b2 false 210 (zblk 210 0) [some (Sum.inr (Sum.inr r0)), none, none, none, none, none] [] H Q) : zEm xs L d b1 b2 210 [Sum.inr (Sum.inr r0)] H Q := ⟨Nat.le_of_ble_eq_true rfl, h⟩
theorem ze_211_0 : zblk 211 0 = zB_211_0 := rfl
theorem ze_211_22 : zblk 211 22 = zB_211_22 := rfl
theorem ze_211_23 : zblk 211 23 = zB_211_23 := rfl
theorem zem_211 {xs : Nat → Int} {L d b1 b2 : Nat} {H : zH} {Q : zQ} {x1 : Int} (h : zEV xs L d b1 b2 false 211 (zblk 211 0) [some (Sum.inl x1)] [] H Q) : zEm xs L d b1 b2 211 [Sum.inl x1] H Q := ⟨Nat.le_of_ble_eq_true rfl, h⟩
theorem ze_212_0 : zblk 212 0 = zB_212_0 := rfl
theorem ze_212_9 : zblk 212 9 = zB_212_9 := rfl
theorem ze_212_33 : zblk 212 33 = zB_212_33 := rfl
theorem ze_212_34 : zblk 212 34 = zB_212_34 := rfl
theorem ze_212_35 : zblk 212 35 = zB_212_35 := rfl
theorem ze_212_61 : zblk 212 61 = zB_212_61 := rfl
theorem ze_212_97 : zblk 212 97 = zB_212_97 := rfl
theorem ze_212_98 : zblk 212 98 = zB_212_98 := rfl
theorem zem_212 {xs : Nat → Int} {L d b1 b2 : Nat} {H : zH} {Q : zQ} {r0 : Option Nat} {x1 : Int} (h : zEV xs L d b1 b2 false 212 (zblk 212 0) [some (Sum.inr (Sum.inr r0)), some (Sum.inl x1)] [] H Q) : zEm xs L d b1 b2 212 [Sum.inr (Sum.inr r0), Sum.inl x1] H Q := ⟨Nat.le_of_ble_eq_true rfl, h⟩
theorem ze_213_0 : zblk 213 0 = zB_213_0 := rfl
theorem ze_213_3 : zblk 213 3 = zB_213_3 := rfl
theorem ze_213_28 : zblk 213 28 = zB_213_28 := rfl
theorem ze_213_54 : zblk 213 54 = zB_213_54 := rfl
theorem ze_213_56 : zblk 213 56 = zB_213_56 := rfl
theorem ze_213_62 : zblk 213 62 = zB_213_62 := rfl
theorem zem_213 {xs : Nat → Int} {L d b1 b2 : Nat} {H : zH} {Q : zQ} {r0 : Option Nat} {x1 : Option Nat} {x2 : Int} {x3 : Int} (h : zEV xs L d b1 b2 false 213 (zblk 213 0) [some (Sum.inr (Sum.inr r0)), some (Sum.inr (Sum.inr x1)), some (Sum.inl x2), some (Sum.inl x3), none] [] H Q) : zEm xs L d b1 b2 213 [Sum.inr (Sum.inr r0), Sum.inr (Sum.inr x1), Sum.inl x2, Sum.inl x3] H Q := ⟨Nat.le_of_ble_eq_true rfl, h⟩
theorem ze_214_0 : zblk 214 0 = zB_214_0 := rfl
theorem ze_214_14 : zblk 214 14 = zB_214_14 := rfl
theorem ze_214_26 : zblk 214 26 = zB_214_26 := rfl
theorem zem_214 {xs : Nat → Int} {L d b1 b2 : Nat} {H : zH} {Q : zQ} {r0 : Option Nat} {x1 : Int} (h : zEV xs L d b1 b2 false 214 (zblk 214 0) [some (Sum.inr (Sum.inr r0)), some (Sum.inl x1)] [] H Q) : zEm xs L d b1 b2 214 [Sum.inr (Sum.inr r0), Sum.inl x1] H Q := ⟨Nat.le_of_ble_eq_true rfl, h⟩
theorem ze_215_0 : zblk 215 0 = zB_215_0 := rfl
theorem ze_215_21 : zblk 215 21 = zB_215_21 := rfl
theorem ze_215_29 : zblk 215 29 = zB_215_29 := rfl
theorem ze_215_31 : zblk 215 31 = zB_215_31 := rfl
theorem ze_215_54 : zblk 215 54 = zB_215_54 := rfl
theorem ze_215_60 : zblk 215 60 = zB_215_60 := rfl
theorem ze_215_66 : zblk 215 66 = zB_215_66 := rfl
theorem ze_215_96 : zblk 215 96 = zB_215_96 := rfl
theorem ze_215_122 : zblk 215 122 = zB_215_122 := rfl
theorem ze_215_124 : zblk 215 124 = zB_215_124 := rfl
theorem ze_215_159 : zblk 215 159 = zB_215_159 := rfl
theorem ze_215_165 : zblk 215 165 = zB_215_165 := rfl
theorem ze_215_167 : zblk 215 167 = zB_215_167 := rfl
theorem ze_215_202 : zblk 215 202 = zB_215_202 := rfl
theorem ze_215_208 : zblk 215 208 = zB_215_208 := rfl
theorem ze_215_217 : zblk 215 217 = zB_215_217 := rfl
theorem ze_215_249 : zblk 215 249 = zB_215_249 := rfl
theorem zem_215 {xs : Nat → Int} {L d b1 b2 : Nat} {H : zH} {Q : zQ} {r0 : Option Nat} {x1 : Int} (h : zEV xs L d b1 b2 false 215 (zblk 215 0) [some (Sum.inr (Sum.inr r0)), some (Sum.inl x1), none, none] [] H Q) : zEm xs L d b1 b2 215 [Sum.inr (Sum.inr r0), Sum.inl x1] H Q := ⟨Nat.le_of_ble_eq_true rfl, h⟩
theorem ze_216_0 : zblk 216 0 = zB_216_0 := rfl
theorem zem_216 {xs : Nat → Int} {L d b1 b2 : Nat} {H : zH} {Q : zQ} {r0 : Option Nat} {x1 : Int} (h : zEV xs L d b1 b2 false 216 (zblk 216 0) [some (Sum.inr (Sum.inr r0)), some (Sum.inl x1)] [] H Q) : zEm xs L d b1 b2 216 [Sum.inr (Sum.inr r0), Sum.inl x1] H Q := ⟨Nat.le_of_ble_eq_true rfl, h⟩
theorem ze_217_0 : zblk 217 0 = zB_217_0 := rfl
theorem ze_217_17 : zblk 217 17 = zB_217_17 := rfl
theorem ze_217_19 : zblk 217 19 = zB_217_19 := rfl
theorem ze_217_56 : zblk 217 56 = zB_217_56 := rfl
theorem ze_217_62 : zblk 217 62 = zB_217_62 := rfl
theorem zem_217 {xs : Nat → Int} {L d b1 b2 : Nat} {H : zH} {Q : zQ} {r0 : Option Nat} {x1 : Int} {x2 : Int} (h : zEV xs L d b1 b2 false 217 (zblk 217 0) [some (Sum.inr (Sum.inr r0)), some (Sum.inl x1), some (Sum.inl x2), none] [] H Q) : zEm xs L d b1 b2 217 [Sum.inr (Sum.inr r0), Sum.inl x1, Sum.inl x2] H Q := ⟨Nat.le_of_ble_eq_true rfl, h⟩
theorem ze_218_0 : zblk 218 0 = zB_218_0 := rfl
theorem ze_218_10 : zblk 218 10 = zB_218_10 := rfl
theorem ze_218_36 : zblk 218 36 = zB_218_36 := rfl
theorem ze_218_43 : zblk 218 43 = zB_218_43 := rfl
theorem ze_218_50 : zblk 218 50 = zB_218_50 := rfl
theorem ze_218_56 : zblk 218 56 = zB_218_56 := rfl
theorem ze_218_91 : zblk 218 91 = zB_218_91 := rfl
theorem ze_218_92 : zblk 218 92 = zB_218_92 := rfl
theorem zem_218 {xs : Nat → Int} {L d b1 b2 : Nat} {H : zH} {Q : zQ} {r0 : Option Nat} {x1 : Int} {x2 : Int} (h : zEV xs L d b1 b2 false 218 (zblk 218 0) [some (Sum.inr (Sum.inr r0)), some (Sum.inl x1), some (Sum.inl x2)] [] H Q) : zEm xs L d b1 b2 218 [Sum.inr (Sum.inr r0), Sum.inl x1, Sum.inl x2] H Q := ⟨Nat.le_of_ble_eq_true rfl, h⟩
theorem ze_219_0 : zblk 219 0 = zB_219_0 := rfl
theorem ze_219_13 : zblk 219 13 = zB_219_13 := rfl
theorem ze_219_18 : zblk 219 18 = zB_219_18 := rfl
theorem ze_219_27 : zblk 219 27 = zB_219_27 := rfl
theorem ze_219_54 : zblk 219 54 = zB_219_54 := rfl
theorem ze_219_60 : zblk 219 60 = zB_219_60 := rfl
theorem ze_219_83 : zblk 219 83 = zB_219_83 := rfl
theorem ze_219_101 : zblk 219 101 = zB_219_101 := rfl
theorem ze_219_113 : zblk 219 113 = zB_219_113 := rfl
theorem ze_219_117 : zblk 219 117 = zB_219_117 := rfl
theorem ze_219_123 : zblk 219 123 = zB_219_123 := rfl
theorem ze_219_143 : zblk 219 143 = zB_219_143 := rfl
theorem ze_219_144 : zblk 219 144 = zB_219_144 := rfl
theorem ze_219_145 : zblk 219 145 = zB_219_145 := rfl
theorem ze_219_151 : zblk 219 151 = zB_219_151 := rfl
theorem ze_219_157 : zblk 219 157 = zB_219_157 := rfl
theorem zem_219 {xs : Nat → Int} {L d b1 b2 : Nat} {H : zH} {Q : zQ} {r0 : Option Nat} {x1 : Int} (h : zEV xs L d b1 b2 false 219 (zblk 219 0) [some (Sum.inr (Sum.inr r0)), some (Sum.inl x1), none, none, none, none, none, none] [] H Q) : zEm xs L d b1 b2 219 [Sum.inr (Sum.inr r0), Sum.inl x1] H Q := ⟨Nat.le_of_ble_eq_true rfl, h⟩
theorem ze_220_0 : zblk 220 0 = zB_220_0 := rfl
theorem ze_220_5 : zblk 220 5 = zB_220_5 := rfl
theorem ze_220_23 : zblk 220 23 = zB_220_23 := rfl
theorem ze_220_40 : zblk 220 40 = zB_220_40 := rfl
theorem ze_220_57 : zblk 220 57 = zB_220_57 := rfl
theorem ze_220_63 : zblk 220 63 = zB_220_63 := rfl
theorem zem_220 {xs : Nat → Int} {L d b1 b2 : Nat} {H : zH} {Q : zQ} {r0 : Option Nat} {x1 : Int} {x2 : Int} (h : zEV xs L d b1 b2 false 220 (zblk 220 0) [some (Sum.inr (Sum.inr r0)), some (Sum.inl x1), some (Sum.inl x2), none, none] [] H Q) : zEm xs L d b1 b2 220 [Sum.inr (Sum.inr r0), Sum.inl x1, Sum.inl x2] H Q := ⟨Nat.le_of_ble_eq_true rfl, h⟩
theorem ze_221_0 : zblk 221 0 = zB_221_0 := rfl
theorem ze_221_16 : zblk 221 16 = zB_221_16 := rfl
theorem ze_221_18 : zblk 221 18 = zB_221_18 := rfl
theorem ze_221_21 : zblk 221 21 = zB_221_21 := rfl
theorem ze_221_51 : zblk 221 51 = zB_221_51 := rfl
theorem ze_221_57 : zblk 221 57 = zB_221_57 := rfl
theorem zem_221 {xs : Nat → Int} {L d b1 b2 : Nat} {H : zH} {Q : zQ} {r0 : Option Nat} {x1 : Int} {x2 : Option Nat} {x3 : Int} {x4 : Int} (h : zEV xs L d b1 b2 false 221 (zblk 221 0) [some (Sum.inr (Sum.inr r0)), some (Sum.inl x1), some (Sum.inr (Sum.inr x2)), some (Sum.inl x3), some (Sum.inl x4), none] [] H Q) : zEm xs L d b1 b2 221 [Sum.inr (Sum.inr r0), Sum.inl x1, Sum.inr (Sum.inr x2), Sum.inl x3, Sum.inl x4] H Q := ⟨Nat.le_of_ble_eq_true rfl, h⟩
theorem ze_222_0 : zblk 222 0 = zB_222_0 := rfl
theorem ze_222_15 : zblk 222 15 = zB_222_15 := rfl
theorem ze_222_28 : zblk 222 28 = zB_222_28 := rfl
theorem ze_222_62 : zblk 222 62 = zB_222_62 := rfl
theorem ze_222_63 : zblk 222 63 = zB_222_63 := rfl
theorem ze_222_72 : zblk 222 72 = zB_222_72 := rfl
theorem ze_222_82 : zblk 222 82 = zB_222_82 := rfl
theorem ze_222_83 : zblk 222 83 = zB_222_83 := rfl
theorem ze_222_84 : zblk 222 84 = zB_222_84 := rfl
theorem ze_222_95 : zblk 222 95 = zB_222_95 := rfl
theorem ze_222_98 : zblk 222 98 = zB_222_98 := rfl
theorem ze_222_132 : zblk 222 132 = zB_222_132 := rfl
theorem ze_222_168 : zblk 222 168 = zB_222_168 := rfl
theorem ze_222_179 : zblk 222 179 = zB_222_179 := rfl
theorem ze_222_180 : zblk 222 180 = zB_222_180 := rfl
theorem zem_222 {xs : Nat → Int} {L d b1 b2 : Nat} {H : zH} {Q : zQ} {r0 : Option Nat} {x1 : Int} {x2 : Option Nat} {x3 : Int} {x4 : Int} (h : zEV xs L d b1 b2 false 222 (zblk 222 0) [some (Sum.inr (Sum.inr r0)), some (Sum.inl x1), some (Sum.inr (Sum.inr x2)), some (Sum.inl x3), some (Sum.inl x4), none, none, none] [] H Q) : zEm xs L d b1 b2 222 [Sum.inr (Sum.inr r0), Sum.inl x1, Sum.inr (Sum.inr x2), Sum.inl x3, Sum.inl x4] H Q := ⟨Nat.le_of_ble_eq_true rfl, h⟩
theorem ze_223_0 : zblk 223 0 = zB_223_0 := rfl
theorem ze_223_4 : zblk 223 4 = zB_223_4 := rfl
theorem ze_223_36 : zblk 223 36 = zB_223_36 := rfl
theorem zem_223 {xs : Nat → Int} {L d b1 b2 : Nat} {H : zH} {Q : zQ} {r0 : Option Nat} (h : zEV xs L d b1 b2 false 223 (zblk 223 0) [some (Sum.inr (Sum.inr r0)), none, none, none] [] H Q) : zEm xs L d b1 b2 223 [Sum.inr (Sum.inr r0)] H Q := ⟨Nat.le_of_ble_eq_true rfl, h⟩
theorem ze_224_0 : zblk 224 0 = zB_224_0 := rfl
theorem ze_224_2 : zblk 224 2 = zB_224_2 := rfl
theorem ze_224_36 : zblk 224 36 = zB_224_36 := rfl
theorem ze_224_42 : zblk 224 42 = zB_224_42 := rfl
theorem zem_224 {xs : Nat → Int} {L d b1 b2 : Nat} {H : zH} {Q : zQ} {r0 : Option Nat} (h : zEV xs L d b1 b2 false 224 (zblk 224 0) [some (Sum.inr (Sum.inr r0)), none] [] H Q) : zEm xs L d b1 b2 224 [Sum.inr (Sum.inr r0)] H Q := ⟨Nat.le_of_ble_eq_true rfl, h⟩
theorem ze_225_0 : zblk 225 0 = zB_225_0 := rfl
theorem ze_225_4 : zblk 225 4 = zB_225_4 := rfl
theorem ze_225_53 : zblk 225 53 = zB_225_53 := rfl
theorem ze_225_59 : zblk 225 59 = zB_225_59 := rfl
theorem ze_225_65 : zblk 225 65 = zB_225_65 := rfl
theorem zem_225 {xs : Nat → Int} {L d b1 b2 : Nat} {H : zH} {Q : zQ} {r0 : Option Nat} (h : zEV xs L d b1 b2 false 225 (zblk 225 0) [some (Sum.inr (Sum.inr r0)), none, none, none] [] H Q) : zEm xs L d b1 b2 225 [Sum.inr (Sum.inr r0)] H Q := ⟨Nat.le_of_ble_eq_true rfl, h⟩
theorem ze_226_0 : zblk 226 0 = zB_226_0 := rfl
theorem ze_226_18 : zblk 226 18 = zB_226_18 := rfl
theorem ze_226_21 : zblk 226 21 = zB_226_21 := rfl
theorem ze_226_46 : zblk 226 46 = zB_226_46 := rfl
theorem ze_226_48 : zblk 226 48 = zB_226_48 := rfl
theorem ze_226_73 : zblk 226 73 = zB_226_73 := rfl
theorem ze_226_74 : zblk 226 74 = zB_226_74 := rfl
theorem ze_226_81 : zblk 226 81 = zB_226_81 := rfl
theorem zem_226 {xs : Nat → Int} {L d b1 b2 : Nat} {H : zH} {Q : zQ} {r0 : Option Nat} {x1 : Int} (h : zEV xs L d b1 b2 false 226 (zblk 226 0) [some (Sum.inr (Sum.inr r0)), some (Sum.inl x1), none, none] [] H Q) : zEm xs L d b1 b2 226 [Sum.inr (Sum.inr r0), Sum.inl x1] H Q := ⟨Nat.le_of_ble_eq_true rfl, h⟩
theorem ze_227_0 : zblk 227 0 = zB_227_0 := rfl
theorem ze_227_6 : zblk 227 6 = zB_227_6 := rfl
theorem ze_227_26 : zblk 227 26 = zB_227_26 := rfl
theorem ze_227_28 : zblk 227 28 = zB_227_28 := rfl
theorem ze_227_34 : zblk 227 34 = zB_227_34 := rfl
theorem ze_227_67 : zblk 227 67 = zB_227_67 := rfl
theorem ze_227_98 : zblk 227 98 = zB_227_98 := rfl
theorem ze_227_138 : zblk 227 138 = zB_227_138 := rfl
theorem ze_227_144 : zblk 227 144 = zB_227_144 := rfl
theorem zem_227 {xs : Nat → Int} {L d b1 b2 : Nat} {H : zH} {Q : zQ} {r0 : Option Nat} (h : zEV xs L d b1 b2 false 227 (zblk 227 0) [some (Sum.inr (Sum.inr r0)), none, none, none, none] [] H Q) : zEm xs L d b1 b2 227 [Sum.inr (Sum.inr r0)] H Q := ⟨Nat.le_of_ble_eq_true rfl, h⟩
theorem ze_228_0 : zblk 228 0 = zB_228_0 := rfl
theorem ze_228_8 : zblk 228 8 = zB_228_8 := rfl
theorem ze_228_10 : zblk 228 10 = zB_228_10 := rfl
theorem ze_228_35 : zblk 228 35 = zB_228_35 := rfl
theorem ze_228_65 : zblk 228 65 = zB_228_65 := rfl
theorem ze_228_71 : zblk 228 71 = zB_228_71 := rfl
theorem zem_228 {xs : Nat → Int} {L d b1 b2 : Nat} {H : zH} {Q : zQ} {r0 : Option Nat} (h : zEV xs L d b1 b2 false 228 (zblk 228 0) [some (Sum.inr (Sum.inr r0)), none] [] H Q) : zEm xs L d b1 b2 228 [Sum.inr (Sum.inr r0)] H Q := ⟨Nat.le_of_ble_eq_true rfl, h⟩
theorem ze_229_0 : zblk 229 0 = zB_229_0 := rfl
theorem ze_229_4 : zblk 229 4 = zB_229_4 := rfl
theorem ze_229_22 : zblk 229 22 = zB_229_22 := rfl
theorem zem_229 {xs : Nat → Int} {L d b1 b2 : Nat} {H : zH} {Q : zQ} {x1 : Int} (h : zEV xs L d b1 b2 false 229 (zblk 229 0) [some (Sum.inl x1), none, none] [] H Q) : zEm xs L d b1 b2 229 [Sum.inl x1] H Q := ⟨Nat.le_of_ble_eq_true rfl, h⟩
theorem ze_230_0 : zblk 230 0 = zB_230_0 := rfl
theorem ze_230_2 : zblk 230 2 = zB_230_2 := rfl
theorem ze_230_23 : zblk 230 23 = zB_230_23 := rfl
theorem ze_230_37 : zblk 230 37 = zB_230_37 := rfl
theorem ze_230_59 : zblk 230 59 = zB_230_59 := rfl
theorem ze_230_76 : zblk 230 76 = zB_230_76 := rfl
theorem ze_230_79 : zblk 230 79 = zB_230_79 := rfl
theorem ze_230_108 : zblk 230 108 = zB_230_108 := rfl
theorem ze_230_124 : zblk 230 124 = zB_230_124 := rfl
theorem ze_230_146 : zblk 230 146 = zB_230_146 := rfl
theorem ze_230_149 : zblk 230 149 = zB_230_149 := rfl
theorem ze_230_223 : zblk 230 223 = zB_230_223 := rfl
theorem ze_230_229 : zblk 230 229 = zB_230_229 := rfl
theorem ze_230_235 : zblk 230 235 = zB_230_235 := rfl
theorem ze_230_238 : zblk 230 238 = zB_230_238 := rfl
theorem ze_230_267 : zblk 230 267 = zB_230_267 := rfl
theorem ze_230_273 : zblk 230 273 = zB_230_273 := rfl
theorem zem_230 {xs : Nat → Int} {L d b1 b2 : Nat} {H : zH} {Q : zQ} {r0 : Option Nat} {x1 : Int} {x2 : Int} (h : zEV xs L d b1 b2 false 230 (zblk 230 0) [some (Sum.inr (Sum.inr r0)), some (Sum.inl x1), some (Sum.inl x2), none, none, none, none] [] H Q) : zEm xs L d b1 b2 230 [Sum.inr (Sum.inr r0), Sum.inl x1, Sum.inl x2] H Q := ⟨Nat.le_of_ble_eq_true rfl, h⟩
theorem ze_231_0 : zblk 231 0 = zB_231_0 := rfl
theorem ze_231_2 : zblk 231 2 = zB_231_2 := rfl
theorem ze_231_30 : zblk 231 30 = zB_231_30 := rfl
theorem ze_231_31 : zblk 231 31 = zB_231_31 := rfl
theorem ze_231_38 : zblk 231 38 = zB_231_38 := rfl
theorem zem_231 {xs : Nat → Int} {L d b1 b2 : Nat} {H : zH} {Q : zQ} {r0 : Option Nat} (h : zEV xs L d b1 b2 false 231 (zblk 231 0) [some (Sum.inr (Sum.inr r0)), none] [] H Q) : zEm xs L d b1 b2 231 [Sum.inr (Sum.inr r0)] H Q := ⟨Nat.le_of_ble_eq_true rfl, h⟩
theorem ze_232_0 : zblk 232 0 = zB_232_0 := rfl
theorem ze_232_4 : zblk 232 4 = zB_232_4 := rfl
theorem ze_232_40 : zblk 232 40 = zB_232_40 := rfl
theorem ze_232_81 : zblk 232 81 = zB_232_81 := rfl
theorem ze_232_87 : zblk 232 87 = zB_232_87 := rfl
theorem ze_232_114 : zblk 232 114 = zB_232_114 := rfl
theorem ze_232_120 : zblk 232 120 = zB_232_120 := rfl
theorem zem_232 {xs : Nat → Int} {L d b1 b2 : Nat} {H : zH} {Q : zQ} {r0 : Option Nat} {x1 : Int} (h : zEV xs L d b1 b2 false 232 (zblk 232 0) [some (Sum.inr (Sum.inr r0)), some (Sum.inl x1), none, none, none, none] [] H Q) : zEm xs L d b1 b2 232 [Sum.inr (Sum.inr r0), Sum.inl x1] H Q := ⟨Nat.le_of_ble_eq_true rfl, h⟩
theorem ze_233_0 : zblk 233 0 = zB_233_0 := rfl
theorem ze_233_4 : zblk 233 4 = zB_233_4 := rfl
theorem ze_233_20 : zblk 233 20 = zB_233_20 := rfl
theorem zem_233 {xs : Nat → Int} {L d b1 b2 : Nat} {H : zH} {Q : zQ} {x1 : Int} (h : zEV xs L d b1 b2 false 233 (zblk 233 0) [some (Sum.inl x1), none, none] [] H Q) : zEm xs L d b1 b2 233 [Sum.inl x1] H Q := ⟨Nat.le_of_ble_eq_true rfl, h⟩
theorem ze_234_0 : zblk 234 0 = zB_234_0 := rfl
theorem ze_234_14 : zblk 234 14 = zB_234_14 := rfl
theorem ze_234_22 : zblk 234 22 = zB_234_22 := rfl
theorem ze_234_46 : zblk 234 46 = zB_234_46 := rfl
theorem ze_234_52 : zblk 234 52 = zB_234_52 := rfl
theorem ze_234_96 : zblk 234 96 = zB_234_96 := rfl
theorem ze_234_100 : zblk 234 100 = zB_234_100 := rfl
theorem ze_234_106 : zblk 234 106 = zB_234_106 := rfl
theorem ze_234_143 : zblk 234 143 = zB_234_143 := rfl
theorem zem_234 {xs : Nat → Int} {L d b1 b2 : Nat} {H : zH} {Q : zQ} {r0 : Option Nat} {x1 : Int} {x2 : Int} (h : zEV xs L d b1 b2 false 234 (zblk 234 0) [some (Sum.inr (Sum.inr r0)), some (Sum.inl x1), some (Sum.inl x2), none, none, none, none, none, none] [] H Q) : zEm xs L d b1 b2 234 [Sum.inr (Sum.inr r0), Sum.inl x1, Sum.inl x2] H Q := ⟨Nat.le_of_ble_eq_true rfl, h⟩
theorem ze_235_0 : zblk 235 0 = zB_235_0 := rfl
theorem ze_235_2 : zblk 235 2 = zB_235_2 := rfl
theorem ze_235_51 : zblk 235 51 = zB_235_51 := rfl
theorem ze_235_52 : zblk 235 52 = zB_235_52 := rfl
theorem ze_235_53 : zblk 235 53 = zB_235_53 := rfl
theorem ze_235_59 : zblk 235 59 = zB_235_59 := rfl
theorem zem_235 {xs : Nat → Int} {L d b1 b2 : Nat} {H : zH} {Q : zQ} {r0 : Option Nat} {x1 : Int} (h : zEV xs L d b1 b2 false 235 (zblk 235 0) [some (Sum.inr (Sum.inr r0)), some (Sum.inl x1), none] [] H Q) : zEm xs L d b1 b2 235 [Sum.inr (Sum.inr r0), Sum.inl x1] H Q := ⟨Nat.le_of_ble_eq_true rfl, h⟩
theorem ze_236_0 : zblk 236 0 = zB_236_0 := rfl
theorem ze_236_18 : zblk 236 18 = zB_236_18 := rfl
theorem ze_236_21 : zblk 236 21 = zB_236_21 := rfl
theorem ze_236_40 : zblk 236 40 = zB_236_40 := rfl
theorem ze_236_62 : zblk 236 62 = zB_236_62 := rfl
theorem ze_236_71 : zblk 236 71 = zB_236_71 := rfl
theorem ze_236_87 : zblk 236 87 = zB_236_87 := rfl
theorem ze_236_117 : zblk 236 117 = zB_236_117 := rfl
theorem ze_236_123 : zblk 236 123 = zB_236_123 := rfl
theorem ze_236_176 : zblk 236 176 = zB_236_176 := rfl
theorem ze_236_189 : zblk 236 189 = zB_236_189 := rfl
theorem ze_236_195 : zblk 236 195 = zB_236_195 := rfl
theorem ze_236_203 : zblk 236 203 = zB_236_203 := rfl
theorem ze_236_206 : zblk 236 206 = zB_236_206 := rfl
theorem ze_236_235 : zblk 236 235 = zB_236_235 := rfl
theorem ze_236_236 : zblk 236 236 = zB_236_236 := rfl
theorem ze_236_243 : zblk 236 243 = zB_236_243 := rfl
theorem zem_236 {xs : Nat → Int} {L d b1 b2 : Nat} {H : zH} {Q : zQ} {r0 : Option Nat} {x1 : Int} (h : zEV xs L d b1 b2 false 236 (zblk 236 0) [some (Sum.inr (Sum.inr r0)), some (Sum.inl x1), none, none, none, none, none, none, none, none] [] H Q) : zEm xs L d b1 b2 236 [Sum.inr (Sum.inr r0), Sum.inl x1] H Q := ⟨Nat.le_of_ble_eq_true rfl, h⟩
theorem ze_237_0 : zblk 237 0 = zB_237_0 := rfl
theorem ze_237_19 : zblk 237 19 = zB_237_19 := rfl
theorem ze_237_20 : zblk 237 20 = zB_237_20 := rfl
theorem zem_237 {xs : Nat → Int} {L d b1 b2 : Nat} {H : zH} {Q : zQ} {r0 : Option Nat} {x1 : Int} (h : zEV xs L d b1 b2 false 237 (zblk 237 0) [some (Sum.inr (Sum.inr r0)), some (Sum.inl x1)] [] H Q) : zEm xs L d b1 b2 237 [Sum.inr (Sum.inr r0), Sum.inl x1] H Q := ⟨Nat.le_of_ble_eq_true rfl, h⟩
theorem ze_238_0 : zblk 238 0 = zB_238_0 := rfl
theorem ze_238_19 : zblk 238 19 = zB_238_19 := rfl
theorem ze_238_20 : zblk 238 20 = zB_238_20 := rfl
theorem zem_238 {xs : Nat → Int} {L d b1 b2 : Nat} {H : zH} {Q : zQ} {r0 : Option Nat} {x1 : Int} (h : zEV xs L d b1 b2 false 238 (zblk 238 0) [some (Sum.inr (Sum.inr r0)), some (Sum.inl x1)] [] H Q) : zEm xs L d b1 b2 238 [Sum.inr (Sum.inr r0), Sum.inl x1] H Q := ⟨Nat.le_of_ble_eq_true rfl, h⟩
theorem ze_239_0 : zblk 239 0 = zB_239_0 := rfl
theorem ze_239_41 : zblk 239 41 = zB_239_41 := rfl
theorem ze_239_43 : zblk 239 43 = zB_239_43 := rfl
theorem ze_239_45 : zblk 239 45 = zB_239_45 := rfl
theorem ze_239_86 : zblk 239 86 = zB_239_86 := rfl
theorem ze_239_88 : zblk 239 88 = zB_239_88 := rfl
theorem ze_239_94 : zblk 239 94 = zB_239_94 := rfl
theorem ze_239_106 : zblk 239 106 = zB_239_106 := rfl
theorem ze_239_108 : zblk 239 108 = zB_239_108 := rfl
theorem ze_239_154 : zblk 239 154 = zB_239_154 := rfl
theorem zem_239 {xs : Nat → Int} {L d b1 b2 : Nat} {H : zH} {Q : zQ} {r0 : Option Nat} (h : zEV xs L d b1 b2 false 239 (zblk 239 0) [some (Sum.inr (Sum.inr r0)), none, none, none] [] H Q) : zEm xs L d b1 b2 239 [Sum.inr (Sum.inr r0)] H Q := ⟨Nat.le_of_ble_eq_true rfl, h⟩
theorem ze_240_0 : zblk 240 0 = zB_240_0 := rfl
theorem ze_240_13 : zblk 240 13 = zB_240_13 := rfl
theorem zem_240 {xs : Nat → Int} {L d b1 b2 : Nat} {H : zH} {Q : zQ} {r0 : Option Nat} {x1 : Int} (h : zEV xs L d b1 b2 false 240 (zblk 240 0) [some (Sum.inr (Sum.inr r0)), some (Sum.inl x1), none] [] H Q) : zEm xs L d b1 b2 240 [Sum.inr (Sum.inr r0), Sum.inl x1] H Q := ⟨Nat.le_of_ble_eq_true rfl, h⟩
theorem ze_241_0 : zblk 241 0 = zB_241_0 := rfl
theorem zem_241 {xs : Nat → Int} {L d b1 b2 : Nat} {H : zH} {Q : zQ} {r0 : Option Nat} (h : zEV xs L d b1 b2 false 241 (zblk 241 0) [some (Sum.inr (Sum.inr r0))] [] H Q) : zEm xs L d b1 b2 241 [Sum.inr (Sum.inr r0)] H Q := ⟨Nat.le_of_ble_eq_true rfl, h⟩
theorem ze_242_0 : zblk 242 0 = zB_242_0 := rfl
theorem ze_242_7 : zblk 242 7 = zB_242_7 := rfl
theorem ze_242_26 : zblk 242 26 = zB_242_26 := rfl
theorem zem_242 {xs : Nat → Int} {L d b1 b2 : Nat} {H : zH} {Q : zQ} {r0 : Option Nat} (h : zEV xs L d b1 b2 false 242 (zblk 242 0) [some (Sum.inr (Sum.inr r0)), none] [] H Q) : zEm xs L d b1 b2 242 [Sum.inr (Sum.inr r0)] H Q := ⟨Nat.le_of_ble_eq_true rfl, h⟩
theorem ze_243_0 : zblk 243 0 = zB_243_0 := rfl
theorem ze_243_12 : zblk 243 12 = zB_243_12 := rfl
theorem ze_243_31 : zblk 243 31 = zB_243_31 := rfl
theorem ze_243_63 : zblk 243 63 = zB_243_63 := rfl
theorem ze_243_64 : zblk 243 64 = zB_243_64 := rfl
theorem ze_243_70 : zblk 243 70 = zB_243_70 := rfl
theorem ze_243_100 : zblk 243 100 = zB_243_100 := rfl
theorem ze_243_103 : zblk 243 103 = zB_243_103 := rfl
theorem ze_243_123 : zblk 243 123 = zB_243_123 := rfl
theorem ze_243_163 : zblk 243 163 = zB_243_163 := rfl
theorem ze_243_169 : zblk 243 169 = zB_243_169 := rfl
theorem zem_243 {xs : Nat → Int} {L d b1 b2 : Nat} {H : zH} {Q : zQ} {r0 : Option Nat} {x1 : Int} {x2 : Int} {x3 : Int} {x4 : Int} (h : zEV xs L d b1 b2 false 243 (zblk 243 0) [some (Sum.inr (Sum.inr r0)), some (Sum.inl x1), some (Sum.inl x2), some (Sum.inl x3), some (Sum.inl x4), none, none] [] H Q) : zEm xs L d b1 b2 243 [Sum.inr (Sum.inr r0), Sum.inl x1, Sum.inl x2, Sum.inl x3, Sum.inl x4] H Q := ⟨Nat.le_of_ble_eq_true rfl, h⟩
theorem ze_244_0 : zblk 244 0 = zB_244_0 := rfl
theorem ze_244_10 : zblk 244 10 = zB_244_10 := rfl
theorem zem_244 {xs : Nat → Int} {L d b1 b2 : Nat} {H : zH} {Q : zQ} {r0 : Option Nat} {x1 : Int} (h : zEV xs L d b1 b2 false 244 (zblk 244 0) [some (Sum.inr (Sum.inr r0)), some (Sum.inl x1)] [] H Q) : zEm xs L d b1 b2 244 [Sum.inr (Sum.inr r0), Sum.inl x1] H Q := ⟨Nat.le_of_ble_eq_true rfl, h⟩
theorem ze_245_0 : zblk 245 0 = zB_245_0 := rfl
theorem ze_245_19 : zblk 245 19 = zB_245_19 := rfl
theorem ze_245_21 : zblk 245 21 = zB_245_21 := rfl
theorem ze_245_23 : zblk 245 23 = zB_245_23 := rfl
theorem ze_245_37 : zblk 245 37 = zB_245_37 := rfl
theorem zem_245 {xs : Nat → Int} {L d b1 b2 : Nat} {H : zH} {Q : zQ} {r0 : Option Nat} {x1 : Int} (h : zEV xs L d b1 b2 false 245 (zblk 245 0) [some (Sum.inr (Sum.inr r0)), some (Sum.inl x1), none, none] [] H Q) : zEm xs L d b1 b2 245 [Sum.inr (Sum.inr r0), Sum.inl x1] H Q := ⟨Nat.le_of_ble_eq_true rfl, h⟩
theorem ze_246_0 : zblk 246 0 = zB_246_0 := rfl
theorem ze_246_11 : zblk 246 11 = zB_246_11 := rfl
theorem ze_246_22 : zblk 246 22 = zB_246_22 := rfl
theorem ze_246_24 : zblk 246 24 = zB_246_24 := rfl
theorem ze_246_80 : zblk 246 80 = zB_246_80 := rfl
theorem ze_246_86 : zblk 246 86 = zB_246_86 := rfl
theorem ze_246_142 : zblk 246 142 = zB_246_142 := rfl
theorem zem_246 {xs : Nat → Int} {L d b1 b2 : Nat} {H : zH} {Q : zQ} {r0 : Option Nat} {x1 : Int} (h : zEV xs L d b1 b2 false 246 (zblk 246 0) [some (Sum.inr (Sum.inr r0)), some (Sum.inl x1), none] [] H Q) : zEm xs L d b1 b2 246 [Sum.inr (Sum.inr r0), Sum.inl x1] H Q := ⟨Nat.le_of_ble_eq_true rfl, h⟩
theorem ze_247_0 : zblk 247 0 = zB_247_0 := rfl
theorem ze_247_4 : zblk 247 4 = zB_247_4 := rfl
theorem ze_247_28 : zblk 247 28 = zB_247_28 := rfl
theorem ze_247_34 : zblk 247 34 = zB_247_34 := rfl
theorem ze_247_36 : zblk 247 36 = zB_247_36 := rfl
theorem ze_247_56 : zblk 247 56 = zB_247_56 := rfl
theorem ze_247_72 : zblk 247 72 = zB_247_72 := rfl
theorem ze_247_85 : zblk 247 85 = zB_247_85 := rfl
theorem ze_247_119 : zblk 247 119 = zB_247_119 := rfl
theorem ze_247_124 : zblk 247 124 = zB_247_124 := rfl
theorem ze_247_156 : zblk 247 156 = zB_247_156 := rfl
theorem ze_247_231 : zblk 247 231 = zB_247_231 := rfl
theorem ze_247_249 : zblk 247 249 = zB_247_249 := rfl
theorem ze_247_255 : zblk 247 255 = zB_247_255 := rfl
theorem ze_247_261 : zblk 247 261 = zB_247_261 := rfl
theorem ze_247_265 : zblk 247 265 = zB_247_265 := rfl
theorem ze_247_294 : zblk 247 294 = zB_247_294 := rfl
theorem ze_247_345 : zblk 247 345 = zB_247_345 := rfl
theorem ze_247_347 : zblk 247 347 = zB_247_347 := rfl
theorem ze_247_353 : zblk 247 353 = zB_247_353 := rfl
theorem ze_247_360 : zblk 247 360 = zB_247_360 := rfl
theorem zem_247 {xs : Nat → Int} {L d b1 b2 : Nat} {H : zH} {Q : zQ} {r0 : Option Nat} (h : zEV xs L d b1 b2 false 247 (zblk 247 0) [some (Sum.inr (Sum.inr r0)), none, none, none, none, none, none, none, none] [] H Q) : zEm xs L d b1 b2 247 [Sum.inr (Sum.inr r0)] H Q := ⟨Nat.le_of_ble_eq_true rfl, h⟩
theorem ze_248_0 : zblk 248 0 = zB_248_0 := rfl
theorem zem_248 {xs : Nat → Int} {L d b1 b2 : Nat} {H : zH} {Q : zQ} {r0 : Option Nat} (h : zEV xs L d b1 b2 false 248 (zblk 248 0) [some (Sum.inr (Sum.inr r0))] [] H Q) : zEm xs L d b1 b2 248 [Sum.inr (Sum.inr r0)] H Q := ⟨Nat.le_of_ble_eq_true rfl, h⟩
theorem ze_249_0 : zblk 249 0 = zB_249_0 := rfl
theorem ze_249_26 : zblk 249 26 = zB_249_26 := rfl
theorem ze_249_28 : zblk 249 28 = zB_249_28 := rfl
theorem ze_249_52 : zblk 249 52 = zB_249_52 := rfl
theorem zem_249 {xs : Nat → Int} {L d b1 b2 : Nat} {H : zH} {Q : zQ} {r0 : Option Nat} (h : zEV xs L d b1 b2 false 249 (zblk 249 0) [some (Sum.inr (Sum.inr r0)), none] [] H Q) : zEm xs L d b1 b2 249 [Sum.inr (Sum.inr r0)] H Q := ⟨Nat.le_of_ble_eq_true rfl, h⟩
theorem ze_250_0 : zblk 250 0 = zB_250_0 := rfl
theorem ze_250_17 : zblk 250 17 = zB_250_17 := rfl
theorem ze_250_31 : zblk 250 31 = zB_250_31 := rfl
theorem ze_250_58 : zblk 250 58 = zB_250_58 := rfl
theorem ze_250_59 : zblk 250 59 = zB_250_59 := rfl
theorem ze_250_62 : zblk 250 62 = zB_250_62 := rfl
theorem ze_250_92 : zblk 250 92 = zB_250_92 := rfl
theorem ze_250_125 : zblk 250 125 = zB_250_125 := rfl
theorem ze_250_128 : zblk 250 128 = zB_250_128 := rfl
theorem ze_250_131 : zblk 250 131 = zB_250_131 := rfl
theorem ze_250_137 : zblk 250 137 = zB_250_137 := rfl
theorem zem_250 {xs : Nat → Int} {L d b1 b2 : Nat} {H : zH} {Q : zQ} {r0 : Option Nat} {x1 : Int} {x2 : Int} {x3 : Int} (h : zEV xs L d b1 b2 false 250 (zblk 250 0) [some (Sum.inr (Sum.inr r0)), some (Sum.inl x1), some (Sum.inl x2), some (Sum.inl x3), none] [] H Q) : zEm xs L d b1 b2 250 [Sum.inr (Sum.inr r0), Sum.inl x1, Sum.inl x2, Sum.inl x3] H Q := ⟨Nat.le_of_ble_eq_true rfl, h⟩
theorem ze_251_0 : zblk 251 0 = zB_251_0 := rfl
theorem ze_251_22 : zblk 251 22 = zB_251_22 := rfl
theorem ze_251_24 : zblk 251 24 = zB_251_24 := rfl
theorem ze_251_47 : zblk 251 47 = zB_251_47 := rfl
theorem ze_251_53 : zblk 251 53 = zB_251_53 := rfl
theorem ze_251_55 : zblk 251 55 = zB_251_55 := rfl
theorem ze_251_116 : zblk 251 116 = zB_251_116 := rfl
theorem zem_251 {xs : Nat → Int} {L d b1 b2 : Nat} {H : zH} {Q : zQ} {r0 : Option Nat} (h : zEV xs L d b1 b2 false 251 (zblk 251 0) [some (Sum.inr (Sum.inr r0)), none, none] [] H Q) : zEm xs L d b1 b2 251 [Sum.inr (Sum.inr r0)] H Q := ⟨Nat.le_of_ble_eq_true rfl, h⟩
theorem ze_252_0 : zblk 252 0 = zB_252_0 := rfl
theorem ze_252_2 : zblk 252 2 = zB_252_2 := rfl
theorem ze_252_18 : zblk 252 18 = zB_252_18 := rfl
theorem zem_252 {xs : Nat → Int} {L d b1 b2 : Nat} {H : zH} {Q : zQ} {r0 : Option Nat} {x1 : Int} (h : zEV xs L d b1 b2 false 252 (zblk 252 0) [some (Sum.inr (Sum.inr r0)), some (Sum.inl x1), none] [] H Q) : zEm xs L d b1 b2 252 [Sum.inr (Sum.inr r0), Sum.inl x1] H Q := ⟨Nat.le_of_ble_eq_true rfl, h⟩
theorem ze_253_0 : zblk 253 0 = zB_253_0 := rfl
theorem ze_253_23 : zblk 253 23 = zB_253_23 := rfl
theorem ze_253_24 : zblk 253 24 = zB_253_24 := rfl
theorem zem_253 {xs : Nat → Int} {L d b1 b2 : Nat} {H : zH} {Q : zQ} {r0 : Option Nat} {x1 : Int} (h : zEV xs L d b1 b2 false 253 (zblk 253 0) [some (Sum.inr (Sum.inr r0)), some (Sum.inl x1)] [] H Q) : zEm xs L d b1 b2 253 [Sum.inr (Sum.inr r0), Sum.inl x1] H Q := ⟨Nat.le_of_ble_eq_true rfl, h⟩
theorem ze_254_0 : zblk 254 0 = zB_254_0 := rfl
theorem ze_254_16 : zblk 254 16 = zB_254_16 := rfl
theorem ze_254_58 : zblk 254 58 = zB_254_58 := rfl
theorem ze_254_59 : zblk 254 59 = zB_254_59 := rfl
theorem zem_254 {xs : Nat → Int} {L d b1 b2 : Nat} {H : zH} {Q : zQ} {r0 : Option Nat} {x1 : Int} (h : zEV xs L d b1 b2 false 254 (zblk 254 0) [some (Sum.inr (Sum.inr r0)), some (Sum.inl x1), none] [] H Q) : zEm xs L d b1 b2 254 [Sum.inr (Sum.inr r0), Sum.inl x1] H Q := ⟨Nat.le_of_ble_eq_true rfl, h⟩
theorem ze_255_0 : zblk 255 0 = zB_255_0 := rfl
theorem ze_255_22 : zblk 255 22 = zB_255_22 := rfl
theorem ze_255_24 : zblk 255 24 = zB_255_24 := rfl
theorem ze_255_47 : zblk 255 47 = zB_255_47 := rfl
theorem ze_255_53 : zblk 255 53 = zB_255_53 := rfl
theorem ze_255_65 : zblk 255 65 = zB_255_65 := rfl
theorem ze_255_67 : zblk 255 67 = zB_255_67 := rfl
theorem ze_255_98 : zblk 255 98 = zB_255_98 := rfl
theorem zem_255 {xs : Nat → Int} {L d b1 b2 : Nat} {H : zH} {Q : zQ} {r0 : Option Nat} (h : zEV xs L d b1 b2 false 255 (zblk 255 0) [some (Sum.inr (Sum.inr r0)), none, none] [] H Q) : zEm xs L d b1 b2 255 [Sum.inr (Sum.inr r0)] H Q := ⟨Nat.le_of_ble_eq_true rfl, h⟩
theorem ze_256_0 : zblk 256 0 = zB_256_0 := rfl
theorem ze_256_29 : zblk 256 29 = zB_256_29 := rfl
theorem ze_256_30 : zblk 256 30 = zB_256_30 := rfl
theorem zem_256 {xs : Nat → Int} {L d b1 b2 : Nat} {H : zH} {Q : zQ} {r0 : Option Nat} {x1 : Int} (h : zEV xs L d b1 b2 false 256 (zblk 256 0) [some (Sum.inr (Sum.inr r0)), some (Sum.inl x1)] [] H Q) : zEm xs L d b1 b2 256 [Sum.inr (Sum.inr r0), Sum.inl x1] H Q := ⟨Nat.le_of_ble_eq_true rfl, h⟩
theorem ze_257_0 : zblk 257 0 = zB_257_0 := rfl
theorem ze_257_19 : zblk 257 19 = zB_257_19 := rfl
theorem ze_257_21 : zblk 257 21 = zB_257_21 := rfl
theorem ze_257_42 : zblk 257 42 = zB_257_42 := rfl
theorem ze_257_45 : zblk 257 45 = zB_257_45 := rfl
theorem ze_257_52 : zblk 257 52 = zB_257_52 := rfl
theorem ze_257_54 : zblk 257 54 = zB_257_54 := rfl
theorem ze_257_73 : zblk 257 73 = zB_257_73 := rfl
theorem ze_257_121 : zblk 257 121 = zB_257_121 := rfl
theorem ze_257_122 : zblk 257 122 = zB_257_122 := rfl
theorem ze_257_137 : zblk 257 137 = zB_257_137 := rfl
theorem ze_257_139 : zblk 257 139 = zB_257_139 := rfl
theorem ze_257_141 : zblk 257 141 = zB_257_141 := rfl
theorem ze_257_156 : zblk 257 156 = zB_257_156 := rfl
theorem ze_257_162 : zblk 257 162 = zB_257_162 := rfl
theorem zem_257 {xs : Nat → Int} {L d b1 b2 : Nat} {H : zH} {Q : zQ} {r0 : Option Nat} {x1 : Int} (h : zEV xs L d b1 b2 false 257 (zblk 257 0) [some (Sum.inr (Sum.inr r0)), some (Sum.inl x1), none, none, none, none, none, none] [] H Q) : zEm xs L d b1 b2 257 [Sum.inr (Sum.inr r0), Sum.inl x1] H Q := ⟨Nat.le_of_ble_eq_true rfl, h⟩
theorem ze_258_0 : zblk 258 0 = zB_258_0 := rfl
theorem ze_258_31 : zblk 258 31 = zB_258_31 := rfl
theorem ze_258_35 : zblk 258 35 = zB_258_35 := rfl
theorem zem_258 {xs : Nat → Int} {L d b1 b2 : Nat} {H : zH} {Q : zQ} {r0 : Option Nat} {x1 : Int} {x2 : Int} (h : zEV xs L d b1 b2 false 258 (zblk 258 0) [some (Sum.inr (Sum.inr r0)), some (Sum.inl x1), some (Sum.inl x2), none] [] H Q) : zEm xs L d b1 b2 258 [Sum.inr (Sum.inr r0), Sum.inl x1, Sum.inl x2] H Q := ⟨Nat.le_of_ble_eq_true rfl, h⟩
theorem ze_259_0 : zblk 259 0 = zB_259_0 := rfl
theorem ze_259_6 : zblk 259 6 = zB_259_6 := rfl
theorem ze_259_48 : zblk 259 48 = zB_259_48 := rfl
theorem ze_259_53 : zblk 259 53 = zB_259_53 := rfl
theorem ze_259_59 : zblk 259 59 = zB_259_59 := rfl
theorem zem_259 {xs : Nat → Int} {L d b1 b2 : Nat} {H : zH} {Q : zQ} {r0 : Option Nat} (h : zEV xs L d b1 b2 false 259 (zblk 259 0) [some (Sum.inr (Sum.inr r0)), none, none, none, none] [] H Q) : zEm xs L d b1 b2 259 [Sum.inr (Sum.inr r0)] H Q := ⟨Nat.le_of_ble_eq_true rfl, h⟩
theorem ze_260_0 : zblk 260 0 = zB_260_0 := rfl
theorem ze_260_17 : zblk 260 17 = zB_260_17 := rfl
theorem ze_260_20 : zblk 260 20 = zB_260_20 := rfl
theorem zem_260 {xs : Nat → Int} {L d b1 b2 : Nat} {H : zH} {Q : zQ} {r0 : Option Nat} {x1 : Int} {x2 : Int} (h : zEV xs L d b1 b2 false 260 (zblk 260 0) [some (Sum.inr (Sum.inr r0)), some (Sum.inl x1), some (Sum.inl x2), none] [] H Q) : zEm xs L d b1 b2 260 [Sum.inr (Sum.inr r0), Sum.inl x1, Sum.inl x2] H Q := ⟨Nat.le_of_ble_eq_true rfl, h⟩
theorem ze_261_0 : zblk 261 0 = zB_261_0 := rfl
theorem ze_261_28 : zblk 261 28 = zB_261_28 := rfl
theorem ze_261_31 : zblk 261 31 = zB_261_31 := rfl
theorem zem_261 {xs : Nat → Int} {L d b1 b2 : Nat} {H : zH} {Q : zQ} {r0 : Option Nat} {x1 : Int} {x2 : Int} {x3 : Int} (h : zEV xs L d b1 b2 false 261 (zblk 261 0) [some (Sum.inr (Sum.inr r0)), some (Sum.inl x1), some (Sum.inl x2), some (Sum.inl x3), none] [] H Q) : zEm xs L d b1 b2 261 [Sum.inr (Sum.inr r0), Sum.inl x1, Sum.inl x2, Sum.inl x3] H Q := ⟨Nat.le_of_ble_eq_true rfl, h⟩
theorem ze_262_0 : zblk 262 0 = zB_262_0 := rfl
theorem ze_262_23 : zblk 262 23 = zB_262_23 := rfl
theorem ze_262_24 : zblk 262 24 = zB_262_24 := rfl
theorem zem_262 {xs : Nat → Int} {L d b1 b2 : Nat} {H : zH} {Q : zQ} {r0 : Option Nat} {x1 : Int} (h : zEV xs L d b1 b2 false 262 (zblk 262 0) [some (Sum.inr (Sum.inr r0)), some (Sum.inl x1)] [] H Q) : zEm xs L d b1 b2 262 [Sum.inr (Sum.inr r0), Sum.inl x1] H Q := ⟨Nat.le_of_ble_eq_true rfl, h⟩
theorem ze_263_0 : zblk 263 0 = zB_263_0 := rfl
theorem ze_263_22 : zblk 263 22 = zB_263_22 := rfl
theorem ze_263_24 : zblk 263 24 = zB_263_24 := rfl
theorem ze_263_26 : zblk 263 26 = zB_263_26 := rfl
theorem ze_263_47 : zblk 263 47 = zB_263_47 := rfl
theorem ze_263_48 : zblk 263 48 = zB_263_48 := rfl
theorem ze_263_55 : zblk 263 55 = zB_263_55 := rfl
theorem ze_263_57 : zblk 263 57 = zB_263_57 := rfl
theorem ze_263_85 : zblk 263 85 = zB_263_85 := rfl
theorem ze_263_120 : zblk 263 120 = zB_263_120 := rfl
theorem ze_263_145 : zblk 263 145 = zB_263_145 := rfl
theorem ze_263_153 : zblk 263 153 = zB_263_153 := rfl
theorem ze_263_159 : zblk 263 159 = zB_263_159 := rfl
theorem zem_263 {xs : Nat → Int} {L d b1 b2 : Nat} {H : zH} {Q : zQ} {r0 : Option Nat} {x1 : Int} (h : zEV xs L d b1 b2 false 263 (zblk 263 0) [some (Sum.inr (Sum.inr r0)), some (Sum.inl x1), none, none, none] [] H Q) : zEm xs L d b1 b2 263 [Sum.inr (Sum.inr r0), Sum.inl x1] H Q := ⟨Nat.le_of_ble_eq_true rfl, h⟩
theorem ze_264_0 : zblk 264 0 = zB_264_0 := rfl
theorem ze_264_17 : zblk 264 17 = zB_264_17 := rfl
theorem ze_264_30 : zblk 264 30 = zB_264_30 := rfl
theorem ze_264_58 : zblk 264 58 = zB_264_58 := rfl
theorem zem_264 {xs : Nat → Int} {L d b1 b2 : Nat} {H : zH} {Q : zQ} {r0 : Option Nat} {x1 : Int} {x2 : Int} (h : zEV xs L d b1 b2 false 264 (zblk 264 0) [some (Sum.inr (Sum.inr r0)), some (Sum.inl x1), some (Sum.inl x2), none, none] [] H Q) : zEm xs L d b1 b2 264 [Sum.inr (Sum.inr r0), Sum.inl x1, Sum.inl x2] H Q := ⟨Nat.le_of_ble_eq_true rfl, h⟩
theorem ze_265_0 : zblk 265 0 = zB_265_0 := rfl
theorem ze_265_4 : zblk 265 4 = zB_265_4 := rfl
theorem ze_265_48 : zblk 265 48 = zB_265_48 := rfl
theorem ze_265_50 : zblk 265 50 = zB_265_50 := rfl
theorem ze_265_56 : zblk 265 56 = zB_265_56 := rfl
theorem zem_265 {xs : Nat → Int} {L d b1 b2 : Nat} {H : zH} {Q : zQ} {r0 : Option Nat} (h : zEV xs L d b1 b2 false 265 (zblk 265 0) [some (Sum.inr (Sum.inr r0)), none, none] [] H Q) : zEm xs L d b1 b2 265 [Sum.inr (Sum.inr r0)] H Q := ⟨Nat.le_of_ble_eq_true rfl, h⟩
theorem ze_266_0 : zblk 266 0 = zB_266_0 := rfl
theorem ze_266_22 : zblk 266 22 = zB_266_22 := rfl
theorem ze_266_47 : zblk 266 47 = zB_266_47 := rfl
theorem zem_266 {xs : Nat → Int} {L d b1 b2 : Nat} {H : zH} {Q : zQ} {r0 : Option Nat} {x1 : Int} (h : zEV xs L d b1 b2 false 266 (zblk 266 0) [some (Sum.inr (Sum.inr r0)), some (Sum.inl x1), none, none, none] [] H Q) : zEm xs L d b1 b2 266 [Sum.inr (Sum.inr r0), Sum.inl x1] H Q := ⟨Nat.le_of_ble_eq_true rfl, h⟩
theorem ze_267_0 : zblk 267 0 = zB_267_0 := rfl
theorem ze_267_13 : zblk 267 13 = zB_267_13 := rfl
theorem ze_267_25 : zblk 267 25 = zB_267_25 := rfl
theorem ze_267_30 : zblk 267 30 = zB_267_30 := rfl
theorem ze_267_54 : zblk 267 54 = zB_267_54 := rfl
theorem ze_267_64 : zblk 267 64 = zB_267_64 := rfl
theorem ze_267_89 : zblk 267 89 = zB_267_89 := rfl
theorem ze_267_104 : zblk 267 104 = zB_267_104 := rfl
theorem ze_267_108 : zblk 267 108 = zB_267_108 := rfl
theorem zem_267 {xs : Nat → Int} {L d b1 b2 : Nat} {H : zH} {Q : zQ} {r0 : Option Nat} {x1 : Int} (h : zEV xs L d b1 b2 false 267 (zblk 267 0) [some (Sum.inr (Sum.inr r0)), some (Sum.inl x1), none, none, none, none, none, none, none, none, none] [] H Q) : zEm xs L d b1 b2 267 [Sum.inr (Sum.inr r0), Sum.inl x1] H Q := ⟨Nat.le_of_ble_eq_true rfl, h⟩
theorem ze_268_0 : zblk 268 0 = zB_268_0 := rfl
theorem ze_268_46 : zblk 268 46 = zB_268_46 := rfl
theorem ze_268_49 : zblk 268 49 = zB_268_49 := rfl
theorem ze_268_55 : zblk 268 55 = zB_268_55 := rfl
theorem ze_268_101 : zblk 268 101 = zB_268_101 := rfl
theorem ze_268_107 : zblk 268 107 = zB_268_107 := rfl
theorem ze_268_121 : zblk 268 121 = zB_268_121 := rfl
theorem ze_268_123 : zblk 268 123 = zB_268_123 := rfl
theorem ze_268_135 : zblk 268 135 = zB_268_135 := rfl
theorem ze_268_158 : zblk 268 158 = zB_268_158 := rfl
theorem ze_268_196 : zblk 268 196 = zB_268_196 := rfl
theorem zem_268 {xs : Nat → Int} {L d b1 b2 : Nat} {H : zH} {Q : zQ} {r0 : Option Nat} {x1 : Int} {x2 : Int} (h : zEV xs L d b1 b2 false 268 (zblk 268 0) [some (Sum.inr (Sum.inr r0)), some (Sum.inl x1), some (Sum.inl x2), none, none, none] [] H Q) : zEm xs L d b1 b2 268 [Sum.inr (Sum.inr r0), Sum.inl x1, Sum.inl x2] H Q := ⟨Nat.le_of_ble_eq_true rfl, h⟩
theorem ze_269_0 : zblk 269 0 = zB_269_0 := rfl
theorem zem_269 {xs : Nat → Int} {L d b1 b2 : Nat} {H : zH} {Q : zQ} {x1 : Int} (h : zEV xs L d b1 b2 false 269 (zblk 269 0) [some (Sum.inl x1)] [] H Q) : zEm xs L d b1 b2 269 [Sum.inl x1] H Q := ⟨Nat.le_of_ble_eq_true rfl, h⟩
theorem ze_270_0 : zblk 270 0 = zB_270_0 := rfl
theorem ze_270_21 : zblk 270 21 = zB_270_21 := rfl
theorem ze_270_24 : zblk 270 24 = zB_270_24 := rfl
theorem ze_270_30 : zblk 270 30 = zB_270_30 := rfl
theorem ze_270_84 : zblk 270 84 = zB_270_84 := rfl
theorem ze_270_88 : zblk 270 88 = zB_270_88 := rfl
theorem ze_270_94 : zblk 270 94 = zB_270_94 := rfl
theorem ze_270_104 : zblk 270 104 = zB_270_104 := rfl
theorem ze_270_116 : zblk 270 116 = zB_270_116 := rfl
theorem zem_270 {xs : Nat → Int} {L d b1 b2 : Nat} {H : zH} {Q : zQ} {r0 : Option Nat} {x1 : Int} {x2 : Int} {x3 : Int} (h : zEV xs L d b1 b2 false 270 (zblk 270 0) [some (Sum.inr (Sum.inr r0)), some (Sum.inl x1), some (Sum.inl x2), some (Sum.inl x3), none, none] [] H Q) : zEm xs L d b1 b2 270 [Sum.inr (Sum.inr r0), Sum.inl x1, Sum.inl x2, Sum.inl x3] H Q := ⟨Nat.le_of_ble_eq_true rfl, h⟩
theorem ze_271_0 : zblk 271 0 = zB_271_0 := rfl
theorem ze_271_11 : zblk 271 11 = zB_271_11 := rfl
theorem ze_271_21 : zblk 271 21 = zB_271_21 := rfl
theorem ze_271_40 : zblk 271 40 = zB_271_40 := rfl
theorem ze_271_43 : zblk 271 43 = zB_271_43 := rfl
theorem zem_271 {xs : Nat → Int} {L d b1 b2 : Nat} {H : zH} {Q : zQ} {r0 : Option Nat} {x1 : Int} (h : zEV xs L d b1 b2 false 271 (zblk 271 0) [some (Sum.inr (Sum.inr r0)), some (Sum.inl x1)] [] H Q) : zEm xs L d b1 b2 271 [Sum.inr (Sum.inr r0), Sum.inl x1] H Q := ⟨Nat.le_of_ble_eq_true rfl, h⟩
theorem ze_272_0 : zblk 272 0 = zB_272_0 := rfl
theorem zem_272 {xs : Nat → Int} {L d b1 b2 : Nat} {H : zH} {Q : zQ} {r0 : Option Nat} {x1 : Int} {x2 : Int} (h : zEV xs L d b1 b2 false 272 (zblk 272 0) [some (Sum.inr (Sum.inr r0)), some (Sum.inl x1), some (Sum.inl x2)] [] H Q) : zEm xs L d b1 b2 272 [Sum.inr (Sum.inr r0), Sum.inl x1, Sum.inl x2] H Q := ⟨Nat.le_of_ble_eq_true rfl, h⟩
theorem ze_273_0 : zblk 273 0 = zB_273_0 := rfl
theorem ze_273_22 : zblk 273 22 = zB_273_22 := rfl
theorem ze_273_25 : zblk 273 25 = zB_273_25 := rfl
theorem ze_273_40 : zblk 273 40 = zB_273_40 := rfl
theorem ze_273_46 : zblk 273 46 = zB_273_46 := rfl
theorem zem_273 {xs : Nat → Int} {L d b1 b2 : Nat} {H : zH} {Q : zQ} {r0 : Option Nat} {x1 : Int} {x2 : Int} (h : zEV xs L d b1 b2 false 273 (zblk 273 0) [some (Sum.inr (Sum.inr r0)), some (Sum.inl x1), some (Sum.inl x2)] [] H Q) : zEm xs L d b1 b2 273 [Sum.inr (Sum.inr r0), Sum.inl x1, Sum.inl x2] H Q := ⟨Nat.le_of_ble_eq_true rfl, h⟩
theorem ze_274_0 : zblk 274 0 = zB_274_0 := rfl
theorem ze_274_38 : zblk 274 38 = zB_274_38 := rfl
theorem ze_274_41 : zblk 274 41 = zB_274_41 := rfl
theorem ze_274_72 : zblk 274 72 = zB_274_72 := rfl
theorem ze_274_79 : zblk 274 79 = zB_274_79 := rfl
theorem ze_274_86 : zblk 274 86 = zB_274_86 := rfl
theorem ze_274_105 : zblk 274 105 = zB_274_105 := rfl
theorem ze_274_106 : zblk 274 106 = zB_274_106 := rfl
theorem ze_274_107 : zblk 274 107 = zB_274_107 := rfl
theorem ze_274_114 : zblk 274 114 = zB_274_114 := rfl
theorem zem_274 {xs : Nat → Int} {L d b1 b2 : Nat} {H : zH} {Q : zQ} {r0 : Option Nat} {x1 : Int} {x2 : Int} {x3 : Int} (h : zEV xs L d b1 b2 false 274 (zblk 274 0) [some (Sum.inr (Sum.inr r0)), some (Sum.inl x1), some (Sum.inl x2), some (Sum.inl x3)] [] H Q) : zEm xs L d b1 b2 274 [Sum.inr (Sum.inr r0), Sum.inl x1, Sum.inl x2, Sum.inl x3] H Q := ⟨Nat.le_of_ble_eq_true rfl, h⟩
theorem ze_275_0 : zblk 275 0 = zB_275_0 := rfl
theorem ze_275_5 : zblk 275 5 = zB_275_5 := rfl
theorem ze_275_32 : zblk 275 32 = zB_275_32 := rfl
theorem ze_275_33 : zblk 275 33 = zB_275_33 := rfl
theorem ze_275_40 : zblk 275 40 = zB_275_40 := rfl
theorem zem_275 {xs : Nat → Int} {L d b1 b2 : Nat} {H : zH} {Q : zQ} {r0 : Option Nat} {x1 : Int} {x2 : Int} (h : zEV xs L d b1 b2 false 275 (zblk 275 0) [some (Sum.inr (Sum.inr r0)), some (Sum.inl x1), some (Sum.inl x2), none, none] [] H Q) : zEm xs L d b1 b2 275 [Sum.inr (Sum.inr r0), Sum.inl x1, Sum.inl x2] H Q := ⟨Nat.le_of_ble_eq_true rfl, h⟩
theorem ze_276_0 : zblk 276 0 = zB_276_0 := rfl
theorem ze_276_17 : zblk 276 17 = zB_276_17 := rfl
theorem ze_276_43 : zblk 276 43 = zB_276_43 := rfl
theorem ze_276_55 : zblk 276 55 = zB_276_55 := rfl
theorem ze_276_60 : zblk 276 60 = zB_276_60 := rfl
theorem ze_276_83 : zblk 276 83 = zB_276_83 := rfl
theorem ze_276_113 : zblk 276 113 = zB_276_113 := rfl
theorem ze_276_124 : zblk 276 124 = zB_276_124 := rfl
theorem ze_276_128 : zblk 276 128 = zB_276_128 := rfl
theorem ze_276_129 : zblk 276 129 = zB_276_129 := rfl
theorem ze_276_131 : zblk 276 131 = zB_276_131 := rfl
theorem ze_276_137 : zblk 276 137 = zB_276_137 := rfl
theorem zem_276 {xs : Nat → Int} {L d b1 b2 : Nat} {H : zH} {Q : zQ} {r0 : Option Nat} {x1 : Int} {x2 : Int} (h : zEV xs L d b1 b2 false 276 (zblk 276 0) [some (Sum.inr (Sum.inr r0)), some (Sum.inl x1), some (Sum.inl x2), none, none] [] H Q) : zEm xs L d b1 b2 276 [Sum.inr (Sum.inr r0), Sum.inl x1, Sum.inl x2] H Q := ⟨Nat.le_of_ble_eq_true rfl, h⟩
theorem ze_277_0 : zblk 277 0 = zB_277_0 := rfl
theorem ze_277_5 : zblk 277 5 = zB_277_5 := rfl
theorem ze_277_41 : zblk 277 41 = zB_277_41 := rfl
theorem ze_277_42 : zblk 277 42 = zB_277_42 := rfl
theorem ze_277_50 : zblk 277 50 = zB_277_50 := rfl
theorem zem_277 {xs : Nat → Int} {L d b1 b2 : Nat} {H : zH} {Q : zQ} {r0 : Option Nat} {x1 : Int} {x2 : Int} (h : zEV xs L d b1 b2 false 277 (zblk 277 0) [some (Sum.inr (Sum.inr r0)), some (Sum.inl x1), some (Sum.inl x2), none, none] [] H Q) : zEm xs L d b1 b2 277 [Sum.inr (Sum.inr r0), Sum.inl x1, Sum.inl x2] H Q := ⟨Nat.le_of_ble_eq_true rfl, h⟩
theorem ze_278_0 : zblk 278 0 = zB_278_0 := rfl
theorem ze_278_18 : zblk 278 18 = zB_278_18 := rfl
theorem ze_278_21 : zblk 278 21 = zB_278_21 := rfl
theorem ze_278_25 : zblk 278 25 = zB_278_25 := rfl
theorem ze_278_44 : zblk 278 44 = zB_278_44 := rfl
theorem ze_278_46 : zblk 278 46 = zB_278_46 := rfl
theorem ze_278_62 : zblk 278 62 = zB_278_62 := rfl
theorem ze_278_101 : zblk 278 101 = zB_278_101 := rfl
theorem ze_278_124 : zblk 278 124 = zB_278_124 := rfl
theorem ze_278_127 : zblk 278 127 = zB_278_127 := rfl
theorem zem_278 {xs : Nat → Int} {L d b1 b2 : Nat} {H : zH} {Q : zQ} {r0 : Option Nat} {x1 : Int} (h : zEV xs L d b1 b2 false 278 (zblk 278 0) [some (Sum.inr (Sum.inr r0)), some (Sum.inl x1), none, none] [] H Q) : zEm xs L d b1 b2 278 [Sum.inr (Sum.inr r0), Sum.inl x1] H Q := ⟨Nat.le_of_ble_eq_true rfl, h⟩
theorem ze_279_0 : zblk 279 0 = zB_279_0 := rfl
theorem ze_279_35 : zblk 279 35 = zB_279_35 := rfl
theorem ze_279_57 : zblk 279 57 = zB_279_57 := rfl
theorem ze_279_68 : zblk 279 68 = zB_279_68 := rfl
theorem ze_279_86 : zblk 279 86 = zB_279_86 := rfl
theorem ze_279_92 : zblk 279 92 = zB_279_92 := rfl
theorem ze_279_94 : zblk 279 94 = zB_279_94 := rfl
theorem ze_279_162 : zblk 279 162 = zB_279_162 := rfl
theorem ze_279_199 : zblk 279 199 = zB_279_199 := rfl
theorem ze_279_205 : zblk 279 205 = zB_279_205 := rfl
theorem ze_279_207 : zblk 279 207 = zB_279_207 := rfl
theorem ze_279_252 : zblk 279 252 = zB_279_252 := rfl
theorem ze_279_254 : zblk 279 254 = zB_279_254 := rfl
theorem ze_279_296 : zblk 279 296 = zB_279_296 := rfl
theorem zem_279 {xs : Nat → Int} {L d b1 b2 : Nat} {H : zH} {Q : zQ} {r0 : Option Nat} (h : zEV xs L d b1 b2 false 279 (zblk 279 0) [some (Sum.inr (Sum.inr r0)), none, none, none] [] H Q) : zEm xs L d b1 b2 279 [Sum.inr (Sum.inr r0)] H Q := ⟨Nat.le_of_ble_eq_true rfl, h⟩
theorem ze_280_0 : zblk 280 0 = zB_280_0 := rfl
theorem ze_280_5 : zblk 280 5 = zB_280_5 := rfl
theorem ze_280_25 : zblk 280 25 = zB_280_25 := rfl
theorem ze_280_31 : zblk 280 31 = zB_280_31 := rfl
theorem ze_280_68 : zblk 280 68 = zB_280_68 := rfl
theorem ze_280_95 : zblk 280 95 = zB_280_95 := rfl
theorem ze_280_106 : zblk 280 106 = zB_280_106 := rfl
theorem ze_280_137 : zblk 280 137 = zB_280_137 := rfl
theorem ze_280_153 : zblk 280 153 = zB_280_153 := rfl
theorem ze_280_154 : zblk 280 154 = zB_280_154 := rfl
theorem ze_280_160 : zblk 280 160 = zB_280_160 := rfl
theorem ze_280_171 : zblk 280 171 = zB_280_171 := rfl
theorem ze_280_181 : zblk 280 181 = zB_280_181 := rfl
theorem ze_280_191 : zblk 280 191 = zB_280_191 := rfl
theorem ze_280_202 : zblk 280 202 = zB_280_202 := rfl
theorem ze_280_213 : zblk 280 213 = zB_280_213 := rfl
theorem ze_280_214 : zblk 280 214 = zB_280_214 := rfl
theorem ze_280_217 : zblk 280 217 = zB_280_217 := rfl
theorem zem_280 {xs : Nat → Int} {L d b1 b2 : Nat} {H : zH} {Q : zQ} {r0 : Option Nat} (h : zEV xs L d b1 b2 false 280 (zblk 280 0) [some (Sum.inr (Sum.inr r0)), none, none] [] H Q) : zEm xs L d b1 b2 280 [Sum.inr (Sum.inr r0)] H Q := ⟨Nat.le_of_ble_eq_true rfl, h⟩
theorem ze_281_0 : zblk 281 0 = zB_281_0 := rfl
theorem ze_281_21 : zblk 281 21 = zB_281_21 := rfl
theorem ze_281_22 : zblk 281 22 = zB_281_22 := rfl
theorem zem_281 {xs : Nat → Int} {L d b1 b2 : Nat} {H : zH} {Q : zQ} {r0 : Option Nat} {x1 : Int} (h : zEV xs L d b1 b2 false 281 (zblk 281 0) [some (Sum.inr (Sum.inr r0)), some (Sum.inl x1)] [] H Q) : zEm xs L d b1 b2 281 [Sum.inr (Sum.inr r0), Sum.inl x1] H Q := ⟨Nat.le_of_ble_eq_true rfl, h⟩
theorem ze_282_0 : zblk 282 0 = zB_282_0 := rfl
theorem ze_282_14 : zblk 282 14 = zB_282_14 := rfl
theorem ze_282_35 : zblk 282 35 = zB_282_35 := rfl
theorem ze_282_68 : zblk 282 68 = zB_282_68 := rfl
theorem ze_282_96 : zblk 282 96 = zB_282_96 := rfl
theorem ze_282_110 : zblk 282 110 = zB_282_110 := rfl
theorem zem_282 {xs : Nat → Int} {L d b1 b2 : Nat} {H : zH} {Q : zQ} {r0 : Option Nat} (h : zEV xs L d b1 b2 false 282 (zblk 282 0) [some (Sum.inr (Sum.inr r0)), none] [] H Q) : zEm xs L d b1 b2 282 [Sum.inr (Sum.inr r0)] H Q := ⟨Nat.le_of_ble_eq_true rfl, h⟩
theorem ze_283_0 : zblk 283 0 = zB_283_0 := rfl
theorem zem_283 {xs : Nat → Int} {L d b1 b2 : Nat} {H : zH} {Q : zQ} {r0 : Option Nat} {x1 : Int} (h : zEV xs L d b1 b2 false 283 (zblk 283 0) [some (Sum.inr (Sum.inr r0)), some (Sum.inl x1)] [] H Q) : zEm xs L d b1 b2 283 [Sum.inr (Sum.inr r0), Sum.inl x1] H Q := ⟨Nat.le_of_ble_eq_true rfl, h⟩
theorem ze_284_0 : zblk 284 0 = zB_284_0 := rfl
theorem ze_284_8 : zblk 284 8 = zB_284_8 := rfl
theorem ze_284_33 : zblk 284 33 = zB_284_33 := rfl
theorem ze_284_53 : zblk 284 53 = zB_284_53 := rfl
theorem ze_284_60 : zblk 284 60 = zB_284_60 := rfl
theorem ze_284_99 : zblk 284 99 = zB_284_99 := rfl
theorem zem_284 {xs : Nat → Int} {L d b1 b2 : Nat} {H : zH} {Q : zQ} {r0 : Option Nat} {x1 : Int} {x2 : Int} (h : zEV xs L d b1 b2 false 284 (zblk 284 0) [some (Sum.inr (Sum.inr r0)), some (Sum.inl x1), some (Sum.inl x2), none, none, none] [] H Q) : zEm xs L d b1 b2 284 [Sum.inr (Sum.inr r0), Sum.inl x1, Sum.inl x2] H Q := ⟨Nat.le_of_ble_eq_true rfl, h⟩
theorem ze_285_0 : zblk 285 0 = zB_285_0 := rfl
theorem zem_285 {xs : Nat → Int} {L d b1 b2 : Nat} {H : zH} {Q : zQ} {r0 : Option Nat} (h : zEV xs L d b1 b2 false 285 (zblk 285 0) [some (Sum.inr (Sum.inr r0))] [] H Q) : zEm xs L d b1 b2 285 [Sum.inr (Sum.inr r0)] H Q := ⟨Nat.le_of_ble_eq_true rfl, h⟩
theorem ze_286_0 : zblk 286 0 = zB_286_0 := rfl
theorem ze_286_22 : zblk 286 22 = zB_286_22 := rfl
theorem ze_286_45 : zblk 286 45 = zB_286_45 := rfl
theorem ze_286_51 : zblk 286 51 = zB_286_51 := rfl
theorem ze_286_83 : zblk 286 83 = zB_286_83 := rfl
theorem ze_286_97 : zblk 286 97 = zB_286_97 := rfl
theorem ze_286_133 : zblk 286 133 = zB_286_133 := rfl
theorem ze_286_145 : zblk 286 145 = zB_286_145 := rfl
theorem ze_286_146 : zblk 286 146 = zB_286_146 := rfl
theorem ze_286_184 : zblk 286 184 = zB_286_184 := rfl
theorem ze_286_185 : zblk 286 185 = zB_286_185 := rfl
theorem ze_286_189 : zblk 286 189 = zB_286_189 := rfl
theorem ze_286_232 : zblk 286 232 = zB_286_232 := rfl
theorem ze_286_245 : zblk 286 245 = zB_286_245 := rfl
theorem ze_286_246 : zblk 286 246 = zB_286_246 := rfl
theorem ze_286_259 : zblk 286 259 = zB_286_259 := rfl
theorem ze_286_283 : zblk 286 283 = zB_286_283 := rfl
theorem ze_286_298 : zblk 286 298 = zB_286_298 := rfl
theorem zem_286 {xs : Nat → Int} {L d b1 b2 : Nat} {H : zH} {Q : zQ} {r0 : Option Nat} {x1 : Int} {x2 : Int} {x3 : Int} {x4 : Int} (h : zEV xs L d b1 b2 false 286 (zblk 286 0) [some (Sum.inr (Sum.inr r0)), some (Sum.inl x1), some (Sum.inl x2), some (Sum.inl x3), some (Sum.inl x4), none, none] [] H Q) : zEm xs L d b1 b2 286 [Sum.inr (Sum.inr r0), Sum.inl x1, Sum.inl x2, Sum.inl x3, Sum.inl x4] H Q := ⟨Nat.le_of_ble_eq_true rfl, h⟩
theorem ze_287_0 : zblk 287 0 = zB_287_0 := rfl
theorem ze_287_11 : zblk 287 11 = zB_287_11 := rfl
theorem ze_287_23 : zblk 287 23 = zB_287_23 := rfl
theorem ze_287_24 : zblk 287 24 = zB_287_24 := rfl
theorem zem_287 {xs : Nat → Int} {L d b1 b2 : Nat} {H : zH} {Q : zQ} {r0 : Option Nat} {x1 : Int} (h : zEV xs L d b1 b2 false 287 (zblk 287 0) [some (Sum.inr (Sum.inr r0)), some (Sum.inl x1)] [] H Q) : zEm xs L d b1 b2 287 [Sum.inr (Sum.inr r0), Sum.inl x1] H Q := ⟨Nat.le_of_ble_eq_true rfl, h⟩
theorem ze_288_0 : zblk 288 0 = zB_288_0 := rfl
theorem ze_288_12 : zblk 288 12 = zB_288_12 := rfl
theorem ze_288_46 : zblk 288 46 = zB_288_46 := rfl
theorem ze_288_52 : zblk 288 52 = zB_288_52 := rfl
theorem ze_288_59 : zblk 288 59 = zB_288_59 := rfl
theorem ze_288_66 : zblk 288 66 = zB_288_66 := rfl
theorem ze_288_89 : zblk 288 89 = zB_288_89 := rfl
theorem ze_288_105 : zblk 288 105 = zB_288_105 := rfl
theorem ze_288_137 : zblk 288 137 = zB_288_137 := rfl
theorem ze_288_144 : zblk 288 144 = zB_288_144 := rfl
theorem ze_288_147 : zblk 288 147 = zB_288_147 := rfl
theorem ze_288_154 : zblk 288 154 = zB_288_154 := rfl
theorem ze_288_200 : zblk 288 200 = zB_288_200 := rfl
theorem ze_288_201 : zblk 288 201 = zB_288_201 := rfl
theorem ze_288_208 : zblk 288 208 = zB_288_208 := rfl
theorem ze_288_214 : zblk 288 214 = zB_288_214 := rfl
theorem zem_288 {xs : Nat → Int} {L d b1 b2 : Nat} {H : zH} {Q : zQ} {r0 : Option Nat} (h : zEV xs L d b1 b2 false 288 (zblk 288 0) [some (Sum.inr (Sum.inr r0)), none, none, none, none] [] H Q) : zEm xs L d b1 b2 288 [Sum.inr (Sum.inr r0)] H Q := ⟨Nat.le_of_ble_eq_true rfl, h⟩
theorem ze_289_0 : zblk 289 0 = zB_289_0 := rfl
theorem ze_289_6 : zblk 289 6 = zB_289_6 := rfl
theorem ze_289_24 : zblk 289 24 = zB_289_24 := rfl
theorem ze_289_59 : zblk 289 59 = zB_289_59 := rfl
theorem ze_289_78 : zblk 289 78 = zB_289_78 := rfl
theorem zem_289 {xs : Nat → Int} {L d b1 b2 : Nat} {H : zH} {Q : zQ} {r0 : Option Nat} {x1 : Int} {x2 : Int} (h : zEV xs L d b1 b2 false 289 (zblk 289 0) [some (Sum.inr (Sum.inr r0)), some (Sum.inl x1), some (Sum.inr (Sum.inl x2)), none, none, none, none, none, none, none] [] H Q) : zEm xs L d b1 b2 289 [Sum.inr (Sum.inr r0), Sum.inl x1, Sum.inr (Sum.inl x2)] H Q := ⟨Nat.le_of_ble_eq_true rfl, h⟩
theorem ze_290_0 : zblk 290 0 = zB_290_0 := rfl
theorem ze_290_24 : zblk 290 24 = zB_290_24 := rfl
theorem ze_290_30 : zblk 290 30 = zB_290_30 := rfl
theorem ze_290_53 : zblk 290 53 = zB_290_53 := rfl
theorem ze_290_88 : zblk 290 88 = zB_290_88 := rfl
theorem ze_290_118 : zblk 290 118 = zB_290_118 := rfl
theorem ze_290_124 : zblk 290 124 = zB_290_124 := rfl
theorem zem_290 {xs : Nat → Int} {L d b1 b2 : Nat} {H : zH} {Q : zQ} {r0 : Option Nat} {x1 : Int} {x2 : Int} (h : zEV xs L d b1 b2 false 290 (zblk 290 0) [some (Sum.inr (Sum.inr r0)), some (Sum.inl x1), some (Sum.inr (Sum.inl x2)), none, none, none, none] [] H Q) : zEm xs L d b1 b2 290 [Sum.inr (Sum.inr r0), Sum.inl x1, Sum.inr (Sum.inl x2)] H Q := ⟨Nat.le_of_ble_eq_true rfl, h⟩
theorem ze_291_0 : zblk 291 0 = zB_291_0 := rfl
theorem ze_291_17 : zblk 291 17 = zB_291_17 := rfl
theorem ze_291_19 : zblk 291 19 = zB_291_19 := rfl
theorem ze_291_61 : zblk 291 61 = zB_291_61 := rfl
theorem ze_291_67 : zblk 291 67 = zB_291_67 := rfl
theorem zem_291 {xs : Nat → Int} {L d b1 b2 : Nat} {H : zH} {Q : zQ} {r0 : Option Nat} {x1 : Int} {x2 : Int} (h : zEV xs L d b1 b2 false 291 (zblk 291 0) [some (Sum.inr (Sum.inr r0)), some (Sum.inl x1), some (Sum.inl x2), none] [] H Q) : zEm xs L d b1 b2 291 [Sum.inr (Sum.inr r0), Sum.inl x1, Sum.inl x2] H Q := ⟨Nat.le_of_ble_eq_true rfl, h⟩
theorem ze_292_0 : zblk 292 0 = zB_292_0 := rfl
theorem ze_292_14 : zblk 292 14 = zB_292_14 := rfl
theorem ze_292_17 : zblk 292 17 = zB_292_17 := rfl
theorem ze_292_43 : zblk 292 43 = zB_292_43 := rfl
theorem ze_292_45 : zblk 292 45 = zB_292_45 := rfl
theorem ze_292_78 : zblk 292 78 = zB_292_78 := rfl
theorem ze_292_84 : zblk 292 84 = zB_292_84 := rfl
theorem ze_292_103 : zblk 292 103 = zB_292_103 := rfl
theorem ze_292_109 : zblk 292 109 = zB_292_109 := rfl
theorem zem_292 {xs : Nat → Int} {L d b1 b2 : Nat} {H : zH} {Q : zQ} {r0 : Option Nat} {x1 : Int} (h : zEV xs L d b1 b2 false 292 (zblk 292 0) [some (Sum.inr (Sum.inr r0)), some (Sum.inl x1), none, none] [] H Q) : zEm xs L d b1 b2 292 [Sum.inr (Sum.inr r0), Sum.inl x1] H Q := ⟨Nat.le_of_ble_eq_true rfl, h⟩
theorem ze_293_0 : zblk 293 0 = zB_293_0 := rfl
theorem ze_293_3 : zblk 293 3 = zB_293_3 := rfl
theorem ze_293_29 : zblk 293 29 = zB_293_29 := rfl
theorem ze_293_32 : zblk 293 32 = zB_293_32 := rfl
theorem ze_293_41 : zblk 293 41 = zB_293_41 := rfl
theorem ze_293_68 : zblk 293 68 = zB_293_68 := rfl
theorem ze_293_69 : zblk 293 69 = zB_293_69 := rfl
theorem ze_293_76 : zblk 293 76 = zB_293_76 := rfl
theorem ze_293_85 : zblk 293 85 = zB_293_85 := rfl
theorem ze_293_112 : zblk 293 112 = zB_293_112 := rfl
theorem ze_293_115 : zblk 293 115 = zB_293_115 := rfl
theorem ze_293_169 : zblk 293 169 = zB_293_169 := rfl
theorem ze_293_173 : zblk 293 173 = zB_293_173 := rfl
theorem ze_293_200 : zblk 293 200 = zB_293_200 := rfl
theorem ze_293_214 : zblk 293 214 = zB_293_214 := rfl
theorem ze_293_219 : zblk 293 219 = zB_293_219 := rfl
theorem ze_293_222 : zblk 293 222 = zB_293_222 := rfl
theorem ze_293_273 : zblk 293 273 = zB_293_273 := rfl
theorem ze_293_293 : zblk 293 293 = zB_293_293 := rfl
theorem ze_293_305 : zblk 293 305 = zB_293_305 := rfl
theorem ze_293_308 : zblk 293 308 = zB_293_308 := rfl
theorem ze_293_360 : zblk 293 360 = zB_293_360 := rfl
theorem ze_293_372 : zblk 293 372 = zB_293_372 := rfl
theorem zem_293 {xs : Nat → Int} {L d b1 b2 : Nat} {H : zH} {Q : zQ} {r0 : Option Nat} {x1 : Int} {x2 : Int} {x3 : Int} (h : zEV xs L d b1 b2 false 293 (zblk 293 0) [some (Sum.inr (Sum.inr r0)), some (Sum.inl x1), some (Sum.inl x2), some (Sum.inl x3), none, none, none, none, none, none, none] [] H Q) : zEm xs L d b1 b2 293 [Sum.inr (Sum.inr r0), Sum.inl x1, Sum.inl x2, Sum.inl x3] H Q := ⟨Nat.le_of_ble_eq_true rfl, h⟩
theorem ze_294_0 : zblk 294 0 = zB_294_0 := rfl
theorem ze_294_16 : zblk 294 16 = zB_294_16 := rfl
theorem ze_294_19 : zblk 294 19 = zB_294_19 := rfl
theorem zem_294 {xs : Nat → Int} {L d b1 b2 : Nat} {H : zH} {Q : zQ} {x1 : Int} {x2 : Int} (h : zEV xs L d b1 b2 false 294 (zblk 294 0) [some (Sum.inr (Sum.inl x1)), none, some (Sum.inr (Sum.inl x2)), none] [] H Q) : zEm xs L d b1 b2 294 [Sum.inr (Sum.inl x1), Sum.inr (Sum.inl x2)] H Q := ⟨Nat.le_of_ble_eq_true rfl, h⟩
theorem ze_295_0 : zblk 295 0 = zB_295_0 := rfl
theorem ze_295_22 : zblk 295 22 = zB_295_22 := rfl
theorem ze_295_38 : zblk 295 38 = zB_295_38 := rfl
theorem ze_295_41 : zblk 295 41 = zB_295_41 := rfl
theorem zem_295 {xs : Nat → Int} {L d b1 b2 : Nat} {H : zH} {Q : zQ} {x1 : Int} {x2 : Int} (h : zEV xs L d b1 b2 false 295 (zblk 295 0) [some (Sum.inr (Sum.inl x1)), none, some (Sum.inr (Sum.inl x2)), none] [] H Q) : zEm xs L d b1 b2 295 [Sum.inr (Sum.inl x1), Sum.inr (Sum.inl x2)] H Q := ⟨Nat.le_of_ble_eq_true rfl, h⟩
theorem ze_296_0 : zblk 296 0 = zB_296_0 := rfl
theorem ze_296_18 : zblk 296 18 = zB_296_18 := rfl
theorem ze_296_20 : zblk 296 20 = zB_296_20 := rfl
theorem ze_296_43 : zblk 296 43 = zB_296_43 := rfl
theorem ze_296_49 : zblk 296 49 = zB_296_49 := rfl
theorem ze_296_56 : zblk 296 56 = zB_296_56 := rfl
theorem ze_296_82 : zblk 296 82 = zB_296_82 := rfl
theorem ze_296_85 : zblk 296 85 = zB_296_85 := rfl
theorem ze_296_114 : zblk 296 114 = zB_296_114 := rfl
theorem ze_296_120 : zblk 296 120 = zB_296_120 := rfl
theorem ze_296_126 : zblk 296 126 = zB_296_126 := rfl
theorem ze_296_146 : zblk 296 146 = zB_296_146 := rfl
theorem ze_296_153 : zblk 296 153 = zB_296_153 := rfl
theorem ze_296_200 : zblk 296 200 = zB_296_200 := rfl
theorem ze_296_203 : zblk 296 203 = zB_296_203 := rfl
theorem ze_296_253 : zblk 296 253 = zB_296_253 := rfl
theorem ze_296_259 : zblk 296 259 = zB_296_259 := rfl
theorem zem_296 {xs : Nat → Int} {L d b1 b2 : Nat} {H : zH} {Q : zQ} {r0 : Option Nat} (h : zEV xs L d b1 b2 false 296 (zblk 296 0) [some (Sum.inr (Sum.inr r0)), none, none, none, none, none] [] H Q) : zEm xs L d b1 b2 296 [Sum.inr (Sum.inr r0)] H Q := ⟨Nat.le_of_ble_eq_true rfl, h⟩
theorem ze_297_0 : zblk 297 0 = zB_297_0 := rfl
theorem ze_297_9 : zblk 297 9 = zB_297_9 := rfl
theorem ze_297_30 : zblk 297 30 = zB_297_30 := rfl
theorem ze_297_57 : zblk 297 57 = zB_297_57 := rfl
theorem ze_297_60 : zblk 297 60 = zB_297_60 := rfl
theorem ze_297_80 : zblk 297 80 = zB_297_80 := rfl
theorem ze_297_110 : zblk 297 110 = zB_297_110 := rfl
theorem ze_297_138 : zblk 297 138 = zB_297_138 := rfl
theorem ze_297_168 : zblk 297 168 = zB_297_168 := rfl
theorem ze_297_179 : zblk 297 179 = zB_297_179 := rfl
theorem ze_297_190 : zblk 297 190 = zB_297_190 := rfl
theorem ze_297_233 : zblk 297 233 = zB_297_233 := rfl
theorem ze_297_239 : zblk 297 239 = zB_297_239 := rfl
theorem ze_297_251 : zblk 297 251 = zB_297_251 := rfl
theorem zem_297 {xs : Nat → Int} {L d b1 b2 : Nat} {H : zH} {Q : zQ} {r0 : Option Nat} {x1 : Int} {x2 : Int} {x3 : Int} (h : zEV xs L d b1 b2 false 297 (zblk 297 0) [some (Sum.inr (Sum.inr r0)), some (Sum.inl x1), some (Sum.inl x2), some (Sum.inl x3), none, none, none, none] [] H Q) : zEm xs L d b1 b2 297 [Sum.inr (Sum.inr r0), Sum.inl x1, Sum.inl x2, Sum.inl x3] H Q := ⟨Nat.le_of_ble_eq_true rfl, h⟩
theorem ze_298_0 : zblk 298 0 = zB_298_0 := rfl
theorem ze_298_2 : zblk 298 2 = zB_298_2 := rfl
theorem ze_298_11 : zblk 298 11 = zB_298_11 := rfl
theorem ze_298_43 : zblk 298 43 = zB_298_43 := rfl
theorem ze_298_44 : zblk 298 44 = zB_298_44 := rfl
theorem ze_298_51 : zblk 298 51 = zB_298_51 := rfl
theorem ze_298_57 : zblk 298 57 = zB_298_57 := rfl
theorem zem_298 {xs : Nat → Int} {L d b1 b2 : Nat} {H : zH} {Q : zQ} {r0 : Option Nat} {x1 : Int} {x2 : Int} (h : zEV xs L d b1 b2 false 298 (zblk 298 0) [some (Sum.inr (Sum.inr r0)), some (Sum.inl x1), some (Sum.inl x2), none, none] [] H Q) : zEm xs L d b1 b2 298 [Sum.inr (Sum.inr r0), Sum.inl x1, Sum.inl x2] H Q := ⟨Nat.le_of_ble_eq_true rfl, h⟩
theorem ze_299_0 : zblk 299 0 = zB_299_0 := rfl
theorem zem_299 {xs : Nat → Int} {L d b1 b2 : Nat} {H : zH} {Q : zQ} {x1 : Int} {x2 : Int} {x3 : Int} (h : zEV xs L d b1 b2 false 299 (zblk 299 0) [some (Sum.inl x1), some (Sum.inl x2), some (Sum.inl x3)] [] H Q) : zEm xs L d b1 b2 299 [Sum.inl x1, Sum.inl x2, Sum.inl x3] H Q := ⟨Nat.le_of_ble_eq_true rfl, h⟩
theorem ze_300_0 : zblk 300 0 = zB_300_0 := rfl
theorem ze_300_11 : zblk 300 11 = zB_300_11 := rfl
theorem ze_300_38 : zblk 300 38 = zB_300_38 := rfl
theorem ze_300_39 : zblk 300 39 = zB_300_39 := rfl
theorem ze_300_44 : zblk 300 44 = zB_300_44 := rfl
theorem ze_300_93 : zblk 300 93 = zB_300_93 := rfl
theorem ze_300_94 : zblk 300 94 = zB_300_94 := rfl
theorem ze_300_102 : zblk 300 102 = zB_300_102 := rfl
theorem ze_300_110 : zblk 300 110 = zB_300_110 := rfl
theorem ze_300_116 : zblk 300 116 = zB_300_116 := rfl
theorem ze_300_119 : zblk 300 119 = zB_300_119 := rfl
theorem ze_300_154 : zblk 300 154 = zB_300_154 := rfl
theorem ze_300_167 : zblk 300 167 = zB_300_167 := rfl
theorem ze_300_171 : zblk 300 171 = zB_300_171 := rfl
theorem ze_300_194 : zblk 300 194 = zB_300_194 := rfl
theorem ze_300_200 : zblk 300 200 = zB_300_200 := rfl
theorem zem_300 {xs : Nat → Int} {L d b1 b2 : Nat} {H : zH} {Q : zQ} {r0 : Option Nat} {x1 : Int} {x2 : Int} (h : zEV xs L d b1 b2 false 300 (zblk 300 0) [some (Sum.inr (Sum.inr r0)), some (Sum.inl x1), some (Sum.inl x2), none, none, none, none] [] H Q) : zEm xs L d b1 b2 300 [Sum.inr (Sum.inr r0), Sum.inl x1, Sum.inl x2] H Q := ⟨Nat.le_of_ble_eq_true rfl, h⟩
theorem ze_301_0 : zblk 301 0 = zB_301_0 := rfl
theorem ze_301_9 : zblk 301 9 = zB_301_9 := rfl
theorem ze_301_20 : zblk 301 20 = zB_301_20 := rfl
theorem ze_301_31 : zblk 301 31 = zB_301_31 := rfl
theorem ze_301_72 : zblk 301 72 = zB_301_72 := rfl
theorem ze_301_78 : zblk 301 78 = zB_301_78 := rfl
theorem ze_301_84 : zblk 301 84 = zB_301_84 := rfl
theorem zem_301 {xs : Nat → Int} {L d b1 b2 : Nat} {H : zH} {Q : zQ} {r0 : Option Nat} {x1 : Int} {x2 : Int} {x3 : Int} (h : zEV xs L d b1 b2 false 301 (zblk 301 0) [some (Sum.inr (Sum.inr r0)), some (Sum.inl x1), some (Sum.inl x2), some (Sum.inl x3), none, none, none] [] H Q) : zEm xs L d b1 b2 301 [Sum.inr (Sum.inr r0), Sum.inl x1, Sum.inl x2, Sum.inl x3] H Q := ⟨Nat.le_of_ble_eq_true rfl, h⟩
theorem ze_302_0 : zblk 302 0 = zB_302_0 := rfl
theorem ze_302_42 : zblk 302 42 = zB_302_42 := rfl
theorem ze_302_43 : zblk 302 43 = zB_302_43 := rfl
theorem ze_302_65 : zblk 302 65 = zB_302_65 := rfl
theorem ze_302_82 : zblk 302 82 = zB_302_82 := rfl
theorem ze_302_116 : zblk 302 116 = zB_302_116 := rfl
theorem ze_302_130 : zblk 302 130 = zB_302_130 := rfl
theorem ze_302_152 : zblk 302 152 = zB_302_152 := rfl
theorem ze_302_158 : zblk 302 158 = zB_302_158 := rfl
theorem ze_302_164 : zblk 302 164 = zB_302_164 := rfl
theorem ze_302_202 : zblk 302 202 = zB_302_202 := rfl
theorem ze_302_205 : zblk 302 205 = zB_302_205 := rfl
theorem ze_302_240 : zblk 302 240 = zB_302_240 := rfl
theorem zem_302 {xs : Nat → Int} {L d b1 b2 : Nat} {H : zH} {Q : zQ} {r0 : Option Nat} {x1 : Int} {x2 : Int} {x3 : Int} (h : zEV xs L d b1 b2 false 302 (zblk 302 0) [some (Sum.inr (Sum.inr r0)), some (Sum.inl x1), some (Sum.inl x2), some (Sum.inl x3), none, none, none, none] [] H Q) : zEm xs L d b1 b2 302 [Sum.inr (Sum.inr r0), Sum.inl x1, Sum.inl x2, Sum.inl x3] H Q := ⟨Nat.le_of_ble_eq_true rfl, h⟩
theorem ze_303_0 : zblk 303 0 = zB_303_0 := rfl
theorem ze_303_2 : zblk 303 2 = zB_303_2 := rfl
theorem ze_303_71 : zblk 303 71 = zB_303_71 := rfl
theorem ze_303_77 : zblk 303 77 = zB_303_77 := rfl
theorem zem_303 {xs : Nat → Int} {L d b1 b2 : Nat} {H : zH} {Q : zQ} {r0 : Option Nat} {x1 : Int} {x2 : Int} (h : zEV xs L d b1 b2 false 303 (zblk 303 0) [some (Sum.inr (Sum.inr r0)), some (Sum.inl x1), some (Sum.inl x2), none] [] H Q) : zEm xs L d b1 b2 303 [Sum.inr (Sum.inr r0), Sum.inl x1, Sum.inl x2] H Q := ⟨Nat.le_of_ble_eq_true rfl, h⟩
theorem ze_304_0 : zblk 304 0 = zB_304_0 := rfl
theorem ze_304_2 : zblk 304 2 = zB_304_2 := rfl
theorem ze_304_39 : zblk 304 39 = zB_304_39 := rfl
theorem zem_304 {xs : Nat → Int} {L d b1 b2 : Nat} {H : zH} {Q : zQ} {r0 : Option Nat} {x1 : Int} {x2 : Int} (h : zEV xs L d b1 b2 false 304 (zblk 304 0) [some (Sum.inr (Sum.inr r0)), some (Sum.inl x1), some (Sum.inl x2), none] [] H Q) : zEm xs L d b1 b2 304 [Sum.inr (Sum.inr r0), Sum.inl x1, Sum.inl x2] H Q := ⟨Nat.le_of_ble_eq_true rfl, h⟩
theorem ze_305_0 : zblk 305 0 = zB_305_0 := rfl
theorem ze_305_23 : zblk 305 23 = zB_305_23 := rfl
theorem ze_305_24 : zblk 305 24 = zB_305_24 := rfl
theorem zem_305 {xs : Nat → Int} {L d b1 b2 : Nat} {H : zH} {Q : zQ} {r0 : Option Nat} {x1 : Int} (h : zEV xs L d b1 b2 false 305 (zblk 305 0) [some (Sum.inr (Sum.inr r0)), some (Sum.inl x1)] [] H Q) : zEm xs L d b1 b2 305 [Sum.inr (Sum.inr r0), Sum.inl x1] H Q := ⟨Nat.le_of_ble_eq_true rfl, h⟩
theorem ze_306_0 : zblk 306 0 = zB_306_0 := rfl
theorem ze_306_56 : zblk 306 56 = zB_306_56 := rfl
theorem ze_306_61 : zblk 306 61 = zB_306_61 := rfl
theorem ze_306_66 : zblk 306 66 = zB_306_66 := rfl
theorem ze_306_68 : zblk 306 68 = zB_306_68 := rfl
theorem ze_306_88 : zblk 306 88 = zB_306_88 := rfl
theorem ze_306_89 : zblk 306 89 = zB_306_89 := rfl
theorem ze_306_97 : zblk 306 97 = zB_306_97 := rfl
theorem ze_306_99 : zblk 306 99 = zB_306_99 := rfl
theorem ze_306_104 : zblk 306 104 = zB_306_104 := rfl
theorem ze_306_109 : zblk 306 109 = zB_306_109 := rfl
theorem ze_306_114 : zblk 306 114 = zB_306_114 := rfl
theorem ze_306_119 : zblk 306 119 = zB_306_119 := rfl
theorem ze_306_124 : zblk 306 124 = zB_306_124 := rfl
theorem ze_306_129 : zblk 306 129 = zB_306_129 := rfl
theorem ze_306_134 : zblk 306 134 = zB_306_134 := rfl
theorem zem_306 {xs : Nat → Int} {L d b1 b2 : Nat} {H : zH} {Q : zQ} {r0 : Option Nat} {x1 : Int} (h : zEV xs L d b1 b2 false 306 (zblk 306 0) [some (Sum.inr (Sum.inr r0)), some (Sum.inl x1), none, none] [] H Q) : zEm xs L d b1 b2 306 [Sum.inr (Sum.inr r0), Sum.inl x1] H Q := ⟨Nat.le_of_ble_eq_true rfl, h⟩
theorem ze_307_0 : zblk 307 0 = zB_307_0 := rfl
theorem ze_307_18 : zblk 307 18 = zB_307_18 := rfl
theorem ze_307_260 : zblk 307 260 = zB_307_260 := rfl
theorem ze_307_323 : zblk 307 323 = zB_307_323 := rfl
theorem ze_307_346 : zblk 307 346 = zB_307_346 := rfl
theorem ze_307_369 : zblk 307 369 = zB_307_369 := rfl
theorem ze_307_402 : zblk 307 402 = zB_307_402 := rfl
theorem ze_307_425 : zblk 307 425 = zB_307_425 := rfl
theorem ze_307_426 : zblk 307 426 = zB_307_426 := rfl
theorem ze_307_452 : zblk 307 452 = zB_307_452 := rfl
theorem ze_307_453 : zblk 307 453 = zB_307_453 := rfl
theorem ze_307_461 : zblk 307 461 = zB_307_461 := rfl
theorem ze_307_479 : zblk 307 479 = zB_307_479 := rfl
theorem ze_307_480 : zblk 307 480 = zB_307_480 := rfl
theorem ze_307_501 : zblk 307 501 = zB_307_501 := rfl
theorem ze_307_502 : zblk 307 502 = zB_307_502 := rfl
theorem ze_307_510 : zblk 307 510 = zB_307_510 := rfl
theorem ze_307_523 : zblk 307 523 = zB_307_523 := rfl
theorem ze_307_546 : zblk 307 546 = zB_307_546 := rfl
theorem ze_307_559 : zblk 307 559 = zB_307_559 := rfl
theorem ze_307_582 : zblk 307 582 = zB_307_582 := rfl
theorem ze_307_605 : zblk 307 605 = zB_307_605 := rfl
theorem ze_307_628 : zblk 307 628 = zB_307_628 := rfl
theorem ze_307_661 : zblk 307 661 = zB_307_661 := rfl
theorem ze_307_675 : zblk 307 675 = zB_307_675 := rfl
theorem ze_307_688 : zblk 307 688 = zB_307_688 := rfl
theorem ze_307_702 : zblk 307 702 = zB_307_702 := rfl
theorem ze_307_725 : zblk 307 725 = zB_307_725 := rfl
theorem ze_307_748 : zblk 307 748 = zB_307_748 := rfl
theorem ze_307_761 : zblk 307 761 = zB_307_761 := rfl
theorem ze_307_784 : zblk 307 784 = zB_307_784 := rfl
theorem ze_307_797 : zblk 307 797 = zB_307_797 := rfl
theorem ze_307_820 : zblk 307 820 = zB_307_820 := rfl
theorem ze_307_833 : zblk 307 833 = zB_307_833 := rfl
theorem ze_307_846 : zblk 307 846 = zB_307_846 := rfl
theorem ze_307_869 : zblk 307 869 = zB_307_869 := rfl
theorem ze_307_892 : zblk 307 892 = zB_307_892 := rfl
theorem ze_307_905 : zblk 307 905 = zB_307_905 := rfl
theorem ze_307_928 : zblk 307 928 = zB_307_928 := rfl
theorem ze_307_941 : zblk 307 941 = zB_307_941 := rfl
theorem ze_307_954 : zblk 307 954 = zB_307_954 := rfl
theorem ze_307_977 : zblk 307 977 = zB_307_977 := rfl
theorem ze_307_990 : zblk 307 990 = zB_307_990 := rfl
theorem ze_307_1014 : zblk 307 1014 = zB_307_1014 := rfl
theorem ze_307_1027 : zblk 307 1027 = zB_307_1027 := rfl
theorem ze_307_1050 : zblk 307 1050 = zB_307_1050 := rfl
theorem ze_307_1083 : zblk 307 1083 = zB_307_1083 := rfl
theorem ze_307_1126 : zblk 307 1126 = zB_307_1126 := rfl
theorem ze_307_1150 : zblk 307 1150 = zB_307_1150 := rfl
theorem ze_307_1163 : zblk 307 1163 = zB_307_1163 := rfl
theorem ze_307_1187 : zblk 307 1187 = zB_307_1187 := rfl
theorem ze_307_1210 : zblk 307 1210 = zB_307_1210 := rfl
theorem ze_307_1233 : zblk 307 1233 = zB_307_1233 := rfl
theorem ze_307_1256 : zblk 307 1256 = zB_307_1256 := rfl
theorem ze_307_1269 : zblk 307 1269 = zB_307_1269 := rfl
theorem ze_307_1283 : zblk 307 1283 = zB_307_1283 := rfl
theorem ze_307_1316 : zblk 307 1316 = zB_307_1316 := rfl
theorem ze_307_1359 : zblk 307 1359 = zB_307_1359 := rfl
theorem ze_307_1382 : zblk 307 1382 = zB_307_1382 := rfl
theorem ze_307_1415 : zblk 307 1415 = zB_307_1415 := rfl
theorem ze_307_1458 : zblk 307 1458 = zB_307_1458 := rfl
theorem ze_307_1491 : zblk 307 1491 = zB_307_1491 := rfl
theorem ze_307_1514 : zblk 307 1514 = zB_307_1514 := rfl
theorem ze_307_1537 : zblk 307 1537 = zB_307_1537 := rfl
theorem ze_307_1543 : zblk 307 1543 = zB_307_1543 := rfl
