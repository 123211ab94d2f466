/-! ===== the cells behind the constructors, by number: kind, length; what final fields refer to ===== -/
def zShL : List (Nat × Nat) := [(999, 0), (11, 13), (8, 5), (100, 400), (100, 200), (100, 200), (1, 6), (100, 96), (100, 8), (100, 8), (100, 200), (0, 12), (100, 8), (100, 50), (100, 50), (100, 400), (100, 80), (100, 240), (100, 20), (100, 24), (100, 25), (9, 10), (100, 40), (100, 40), (100, 240), (100, 6), (100, 8), (100, 64), (103, 7), (2, 15), (104, 4), (104, 4), (103, 512), (100, 7), (100, 7), (100, 7), (100, 7), (100, 7), (100, 128), (100, 7), (5, 2), (100, 9), (100, 331), (5, 2), (100, 9), (100, 331), (5, 2), (100, 9), (100, 331), (5, 2), (100, 9), (100, 331), (5, 2), (100, 9), (100, 331), (5, 2), (100, 9), (100, 331), (5, 2), (100, 9), (100, 331), (5, 2), (100, 9), (100, 331), (5, 2), (100, 9), (100, 792), (5, 2), (100, 9), (100, 792), (7, 10), (100, 64), (100, 8), (100, 1792), (100, 256), (100, 256), (100, 256), (103, 256), (10, 9), (103, 305), (103, 305), (103, 61), (103, 488), (103, 120), (103, 488), (103, 5), (103, 5), (6, 8), (100, 100), (100, 100), (100, 300), (100, 300), (100, 100), (100, 40), (4, 15), (100, 400), (100, 120), (100, 120), (100, 400), (100, 8), (4, 15), (100, 400), (100, 120), (100, 120), (100, 400), (100, 8), (12, 85), (101, 400), (101, 96), (100, 8), (100, 8), (102, 8), (102, 64), (100, 200), (100, 200), (100, 40), (100, 246), (100, 41), (100, 6), (100, 792), (100, 32768), (102, 15840), (102, 792), (102, 792), (100, 7), (100, 7), (100, 7), (100, 7), (100, 7), (100, 64), (100, 8), (100, 8), (100, 256), (103, 256), (100, 8), (100, 80), (101, 240), (100, 20), (100, 25), (100, 8), (100, 64), (103, 7), (100, 50), (100, 50), (100, 400), (100, 300), (100, 300), (100, 100), (100, 100), (100, 240), (100, 240), (100, 240), (101, 2880), (100, 240), (100, 800), (100, 800), (100, 16), (102, 16), (100, 60), (100, 60), (103, 488), (103, 1403), (100, 68747), (100, 6), (101, 800)]
def zFiL : List (Nat × Nat × Nat) := [(1, 0, 2), (1, 1, 6), (1, 2, 11), (1, 3, 21), (1, 4, 29), (1, 5, 70), (1, 6, 78), (1, 7, 87), (2, 0, 3), (2, 1, 4), (2, 2, 5), (6, 0, 7), (6, 1, 8), (6, 2, 9), (6, 4, 10), (11, 0, 12), (11, 1, 13), (11, 2, 14), (11, 3, 15), (11, 5, 16), (11, 7, 17), (11, 8, 18), (11, 10, 19), (11, 11, 20), (21, 0, 22), (21, 1, 23), (21, 2, 24), (21, 4, 25), (21, 5, 26), (21, 6, 27), (21, 7, 28), (29, 0, 30), (29, 1, 31), (29, 4, 32), (29, 6, 33), (29, 7, 34), (29, 8, 35), (29, 9, 36), (29, 10, 37), (29, 12, 38), (29, 13, 39), (40, 0, 42), (40, 1, 41), (43, 0, 45), (43, 1, 44), (46, 0, 48), (46, 1, 47), (49, 0, 51), (49, 1, 50), (52, 0, 54), (52, 1, 53), (55, 0, 57), (55, 1, 56), (58, 0, 60), (58, 1, 59), (61, 0, 63), (61, 1, 62), (64, 0, 66), (64, 1, 65), (67, 0, 69), (67, 1, 68), (70, 0, 71), (70, 1, 72), (70, 4, 73), (70, 5, 74), (70, 6, 75), (70, 7, 76), (70, 8, 77), (78, 0, 79), (78, 1, 80), (78, 2, 81), (78, 3, 82), (78, 5, 83), (78, 6, 84), (78, 7, 85), (78, 8, 86), (87, 0, 88), (87, 1, 89), (87, 3, 90), (87, 4, 91), (87, 6, 92), (87, 7, 93), (94, 0, 95), (94, 2, 96), (94, 3, 97), (94, 5, 98), (94, 7, 99), (100, 0, 101), (100, 2, 102), (100, 3, 103), (100, 5, 104), (100, 7, 105), (106, 0, 107), (106, 2, 108), (106, 3, 109), (106, 4, 110), (106, 5, 111), (106, 6, 112), (106, 7, 113), (106, 8, 114), (106, 12, 115), (106, 13, 116), (106, 14, 117), (106, 15, 118), (106, 16, 119), (106, 17, 120), (106, 19, 121), (106, 20, 122), (106, 21, 123), (106, 22, 124), (106, 23, 125), (106, 24, 126), (106, 25, 127), (106, 26, 128), (106, 29, 129), (106, 31, 130), (106, 32, 131), (106, 33, 132), (106, 34, 133), (106, 36, 134), (106, 38, 135), (106, 41, 136), (106, 42, 137), (106, 43, 138), (106, 44, 139), (106, 45, 140), (106, 46, 141), (106, 48, 142), (106, 49, 143), (106, 50, 144), (106, 53, 145), (106, 54, 146), (106, 55, 147), (106, 56, 148), (106, 57, 149), (106, 58, 150), (106, 59, 151), (106, 60, 152), (106, 61, 153), (106, 62, 154), (106, 63, 155), (106, 64, 156), (106, 65, 157), (106, 75, 158), (106, 76, 159), (106, 78, 160), (106, 79, 161), (106, 80, 162), (106, 81, 163), (106, 83, 164)]
def zLay (H : zH) : Prop := 165 ≤ zS H ∧ (∀ a, a < 165 → H.2.1 a = zShL.getD a (999, 0)) ∧ ∀ q ∈ zFiL, zR H q.1 q.2.1 = some q.2.2
theorem lk_1 {H : zH} (h : zLay H) : zK H 1 = 11 := by unfold zK; rw [h.2.1 1 (by decide)]; rfl
theorem lk_2 {H : zH} (h : zLay H) : zK H 2 = 8 := by unfold zK; rw [h.2.1 2 (by decide)]; rfl
theorem lk_3 {H : zH} (h : zLay H) : zK H 3 = 100 := by unfold zK; rw [h.2.1 3 (by decide)]; rfl
theorem ln_3 {H : zH} (h : zLay H) : zN H 3 = 400 := by unfold zN; rw [h.2.1 3 (by decide)]; rfl
theorem lk_4 {H : zH} (h : zLay H) : zK H 4 = 100 := by unfold zK; rw [h.2.1 4 (by decide)]; rfl
theorem ln_4 {H : zH} (h : zLay H) : zN H 4 = 200 := by unfold zN; rw [h.2.1 4 (by decide)]; rfl
theorem lk_5 {H : zH} (h : zLay H) : zK H 5 = 100 := by unfold zK; rw [h.2.1 5 (by decide)]; rfl
theorem ln_5 {H : zH} (h : zLay H) : zN H 5 = 200 := by unfold zN; rw [h.2.1 5 (by decide)]; rfl
theorem lk_6 {H : zH} (h : zLay H) : zK H 6 = 1 := by unfold zK; rw [h.2.1 6 (by decide)]; rfl
theorem lk_7 {H : zH} (h : zLay H) : zK H 7 = 100 := by unfold zK; rw [h.2.1 7 (by decide)]; rfl
theorem ln_7 {H : zH} (h : zLay H) : zN H 7 = 96 := by unfold zN; rw [h.2.1 7 (by decide)]; rfl
theorem lk_8 {H : zH} (h : zLay H) : zK H 8 = 100 := by unfold zK; rw [h.2.1 8 (by decide)]; rfl
theorem ln_8 {H : zH} (h : zLay H) : zN H 8 = 8 := by unfold zN; rw [h.2.1 8 (by decide)]; rfl
theorem lk_9 {H : zH} (h : zLay H) : zK H 9 = 100 := by unfold zK; rw [h.2.1 9 (by decide)]; rfl
theorem ln_9 {H : zH} (h : zLay H) : zN H 9 = 8 := by unfold zN; rw [h.2.1 9 (by decide)]; rfl
theorem lk_10 {H : zH} (h : zLay H) : zK H 10 = 100 := by unfold zK; rw [h.2.1 10 (by decide)]; rfl
theorem ln_10 {H : zH} (h : zLay H) : zN H 10 = 200 := by unfold zN; rw [h.2.1 10 (by decide)]; rfl
theorem lk_11 {H : zH} (h : zLay H) : zK H 11 = 0 := by unfold zK; rw [h.2.1 11 (by decide)]; rfl
theorem lk_12 {H : zH} (h : zLay H) : zK H 12 = 100 := by unfold zK; rw [h.2.1 12 (by decide)]; rfl
theorem ln_12 {H : zH} (h : zLay H) : zN H 12 = 8 := by unfold zN; rw [h.2.1 12 (by decide)]; rfl
theorem lk_13 {H : zH} (h : zLay H) : zK H 13 = 100 := by unfold zK; rw [h.2.1 13 (by decide)]; rfl
theorem ln_13 {H : zH} (h : zLay H) : zN H 13 = 50 := by unfold zN; rw [h.2.1 13 (by decide)]; rfl
theorem lk_14 {H : zH} (h : zLay H) : zK H 14 = 100 := by unfold zK; rw [h.2.1 14 (by decide)]; rfl
theorem ln_14 {H : zH} (h : zLay H) : zN H 14 = 50 := by unfold zN; rw [h.2.1 14 (by decide)]; rfl
theorem lk_15 {H : zH} (h : zLay H) : zK H 15 = 100 := by unfold zK; rw [h.2.1 15 (by decide)]; rfl
theorem ln_15 {H : zH} (h : zLay H) : zN H 15 = 400 := by unfold zN; rw [h.2.1 15 (by decide)]; rfl
theorem lk_16 {H : zH} (h : zLay H) : zK H 16 = 100 := by unfold zK; rw [h.2.1 16 (by decide)]; rfl
theorem ln_16 {H : zH} (h : zLay H) : zN H 16 = 80 := by unfold zN; rw [h.2.1 16 (by decide)]; rfl
theorem lk_17 {H : zH} (h : zLay H) : zK H 17 = 100 := by unfold zK; rw [h.2.1 17 (by decide)]; rfl
theorem ln_17 {H : zH} (h : zLay H) : zN H 17 = 240 := by unfold zN; rw [h.2.1 17 (by decide)]; rfl
theorem lk_18 {H : zH} (h : zLay H) : zK H 18 = 100 := by unfold zK; rw [h.2.1 18 (by decide)]; rfl
theorem ln_18 {H : zH} (h : zLay H) : zN H 18 = 20 := by unfold zN; rw [h.2.1 18 (by decide)]; rfl
theorem lk_19 {H : zH} (h : zLay H) : zK H 19 = 100 := by unfold zK; rw [h.2.1 19 (by decide)]; rfl
theorem ln_19 {H : zH} (h : zLay H) : zN H 19 = 24 := by unfold zN; rw [h.2.1 19 (by decide)]; rfl
theorem lk_20 {H : zH} (h : zLay H) : zK H 20 = 100 := by unfold zK; rw [h.2.1 20 (by decide)]; rfl
theorem ln_20 {H : zH} (h : zLay H) : zN H 20 = 25 := by unfold zN; rw [h.2.1 20 (by decide)]; rfl
theorem lk_21 {H : zH} (h : zLay H) : zK H 21 = 9 := by unfold zK; rw [h.2.1 21 (by decide)]; rfl
theorem lk_22 {H : zH} (h : zLay H) : zK H 22 = 100 := by unfold zK; rw [h.2.1 22 (by decide)]; rfl
theorem ln_22 {H : zH} (h : zLay H) : zN H 22 = 40 := by unfold zN; rw [h.2.1 22 (by decide)]; rfl
theorem lk_23 {H : zH} (h : zLay H) : zK H 23 = 100 := by unfold zK; rw [h.2.1 23 (by decide)]; rfl
theorem ln_23 {H : zH} (h : zLay H) : zN H 23 = 40 := by unfold zN; rw [h.2.1 23 (by decide)]; rfl
theorem lk_24 {H : zH} (h : zLay H) : zK H 24 = 100 := by unfold zK; rw [h.2.1 24 (by decide)]; rfl
theorem ln_24 {H : zH} (h : zLay H) : zN H 24 = 240 := by unfold zN; rw [h.2.1 24 (by decide)]; rfl
theorem lk_25 {H : zH} (h : zLay H) : zK H 25 = 100 := by unfold zK; rw [h.2.1 25 (by decide)]; rfl
theorem ln_25 {H : zH} (h : zLay H) : zN H 25 = 6 := by unfold zN; rw [h.2.1 25 (by decide)]; rfl
theorem lk_26 {H : zH} (h : zLay H) : zK H 26 = 100 := by unfold zK; rw [h.2.1 26 (by decide)]; rfl
theorem ln_26 {H : zH} (h : zLay H) : zN H 26 = 8 := by unfold zN; rw [h.2.1 26 (by decide)]; rfl
theorem lk_27 {H : zH} (h : zLay H) : zK H 27 = 100 := by unfold zK; rw [h.2.1 27 (by decide)]; rfl
theorem ln_27 {H : zH} (h : zLay H) : zN H 27 = 64 := by unfold zN; rw [h.2.1 27 (by decide)]; rfl
theorem lk_28 {H : zH} (h : zLay H) : zK H 28 = 103 := by unfold zK; rw [h.2.1 28 (by decide)]; rfl
theorem ln_28 {H : zH} (h : zLay H) : zN H 28 = 7 := by unfold zN; rw [h.2.1 28 (by decide)]; rfl
theorem lk_29 {H : zH} (h : zLay H) : zK H 29 = 2 := by unfold zK; rw [h.2.1 29 (by decide)]; rfl
theorem lk_30 {H : zH} (h : zLay H) : zK H 30 = 104 := by unfold zK; rw [h.2.1 30 (by decide)]; rfl
theorem ln_30 {H : zH} (h : zLay H) : zN H 30 = 4 := by unfold zN; rw [h.2.1 30 (by decide)]; rfl
theorem lk_31 {H : zH} (h : zLay H) : zK H 31 = 104 := by unfold zK; rw [h.2.1 31 (by decide)]; rfl
theorem ln_31 {H : zH} (h : zLay H) : zN H 31 = 4 := by unfold zN; rw [h.2.1 31 (by decide)]; rfl
theorem lk_32 {H : zH} (h : zLay H) : zK H 32 = 103 := by unfold zK; rw [h.2.1 32 (by decide)]; rfl
theorem ln_32 {H : zH} (h : zLay H) : zN H 32 = 512 := by unfold zN; rw [h.2.1 32 (by decide)]; rfl
theorem lk_33 {H : zH} (h : zLay H) : zK H 33 = 100 := by unfold zK; rw [h.2.1 33 (by decide)]; rfl
theorem ln_33 {H : zH} (h : zLay H) : zN H 33 = 7 := by unfold zN; rw [h.2.1 33 (by decide)]; rfl
theorem lk_34 {H : zH} (h : zLay H) : zK H 34 = 100 := by unfold zK; rw [h.2.1 34 (by decide)]; rfl
theorem ln_34 {H : zH} (h : zLay H) : zN H 34 = 7 := by unfold zN; rw [h.2.1 34 (by decide)]; rfl
theorem lk_35 {H : zH} (h : zLay H) : zK H 35 = 100 := by unfold zK; rw [h.2.1 35 (by decide)]; rfl
theorem ln_35 {H : zH} (h : zLay H) : zN H 35 = 7 := by unfold zN; rw [h.2.1 35 (by decide)]; rfl
theorem lk_36 {H : zH} (h : zLay H) : zK H 36 = 100 := by unfold zK; rw [h.2.1 36 (by decide)]; rfl
theorem ln_36 {H : zH} (h : zLay H) : zN H 36 = 7 := by unfold zN; rw [h.2.1 36 (by decide)]; rfl
theorem lk_37 {H : zH} (h : zLay H) : zK H 37 = 100 := by unfold zK; rw [h.2.1 37 (by decide)]; rfl
theorem ln_37 {H : zH} (h : zLay H) : zN H 37 = 7 := by unfold zN; rw [h.2.1 37 (by decide)]; rfl
theorem lk_38 {H : zH} (h : zLay H) : zK H 38 = 100 := by unfold zK; rw [h.2.1 38 (by decide)]; rfl
theorem ln_38 {H : zH} (h : zLay H) : zN H 38 = 128 := by unfold zN; rw [h.2.1 38 (by decide)]; rfl
theorem lk_39 {H : zH} (h : zLay H) : zK H 39 = 100 := by unfold zK; rw [h.2.1 39 (by decide)]; rfl
theorem ln_39 {H : zH} (h : zLay H) : zN H 39 = 7 := by unfold zN; rw [h.2.1 39 (by decide)]; rfl
theorem lk_40 {H : zH} (h : zLay H) : zK H 40 = 5 := by unfold zK; rw [h.2.1 40 (by decide)]; rfl
theorem lk_41 {H : zH} (h : zLay H) : zK H 41 = 100 := by unfold zK; rw [h.2.1 41 (by decide)]; rfl
theorem ln_41 {H : zH} (h : zLay H) : zN H 41 = 9 := by unfold zN; rw [h.2.1 41 (by decide)]; rfl
theorem lk_42 {H : zH} (h : zLay H) : zK H 42 = 100 := by unfold zK; rw [h.2.1 42 (by decide)]; rfl
theorem ln_42 {H : zH} (h : zLay H) : zN H 42 = 331 := by unfold zN; rw [h.2.1 42 (by decide)]; rfl
theorem lk_43 {H : zH} (h : zLay H) : zK H 43 = 5 := by unfold zK; rw [h.2.1 43 (by decide)]; rfl
theorem lk_44 {H : zH} (h : zLay H) : zK H 44 = 100 := by unfold zK; rw [h.2.1 44 (by decide)]; rfl
theorem ln_44 {H : zH} (h : zLay H) : zN H 44 = 9 := by unfold zN; rw [h.2.1 44 (by decide)]; rfl
theorem lk_45 {H : zH} (h : zLay H) : zK H 45 = 100 := by unfold zK; rw [h.2.1 45 (by decide)]; rfl
theorem ln_45 {H : zH} (h : zLay H) : zN H 45 = 331 := by unfold zN; rw [h.2.1 45 (by decide)]; rfl
theorem lk_46 {H : zH} (h : zLay H) : zK H 46 = 5 := by unfold zK; rw [h.2.1 46 (by decide)]; rfl
theorem lk_47 {H : zH} (h : zLay H) : zK H 47 = 100 := by unfold zK; rw [h.2.1 47 (by decide)]; rfl
theorem ln_47 {H : zH} (h : zLay H) : zN H 47 = 9 := by unfold zN; rw [h.2.1 47 (by decide)]; rfl
theorem lk_48 {H : zH} (h : zLay H) : zK H 48 = 100 := by unfold zK; rw [h.2.1 48 (by decide)]; rfl
theorem ln_48 {H : zH} (h : zLay H) : zN H 48 = 331 := by unfold zN; rw [h.2.1 48 (by decide)]; rfl
theorem lk_49 {H : zH} (h : zLay H) : zK H 49 = 5 := by unfold zK; rw [h.2.1 49 (by decide)]; rfl
theorem lk_50 {H : zH} (h : zLay H) : zK H 50 = 100 := by unfold zK; rw [h.2.1 50 (by decide)]; rfl
theorem ln_50 {H : zH} (h : zLay H) : zN H 50 = 9 := by unfold zN; rw [h.2.1 50 (by decide)]; rfl
theorem lk_51 {H : zH} (h : zLay H) : zK H 51 = 100 := by unfold zK; rw [h.2.1 51 (by decide)]; rfl
theorem ln_51 {H : zH} (h : zLay H) : zN H 51 = 331 := by unfold zN; rw [h.2.1 51 (by decide)]; rfl
theorem lk_52 {H : zH} (h : zLay H) : zK H 52 = 5 := by unfold zK; rw [h.2.1 52 (by decide)]; rfl
theorem lk_53 {H : zH} (h : zLay H) : zK H 53 = 100 := by unfold zK; rw [h.2.1 53 (by decide)]; rfl
theorem ln_53 {H : zH} (h : zLay H) : zN H 53 = 9 := by unfold zN; rw [h.2.1 53 (by decide)]; rfl
theorem lk_54 {H : zH} (h : zLay H) : zK H 54 = 100 := by unfold zK; rw [h.2.1 54 (by decide)]; rfl
theorem ln_54 {H : zH} (h : zLay H) : zN H 54 = 331 := by unfold zN; rw [h.2.1 54 (by decide)]; rfl
theorem lk_55 {H : zH} (h : zLay H) : zK H 55 = 5 := by unfold zK; rw [h.2.1 55 (by decide)]; rfl
theorem lk_56 {H : zH} (h : zLay H) : zK H 56 = 100 := by unfold zK; rw [h.2.1 56 (by decide)]; rfl
theorem ln_56 {H : zH} (h : zLay H) : zN H 56 = 9 := by unfold zN; rw [h.2.1 56 (by decide)]; rfl
theorem lk_57 {H : zH} (h : zLay H) : zK H 57 = 100 := by unfold zK; rw [h.2.1 57 (by decide)]; rfl
theorem ln_57 {H : zH} (h : zLay H) : zN H 57 = 331 := by unfold zN; rw [h.2.1 57 (by decide)]; rfl
theorem lk_58 {H : zH} (h : zLay H) : zK H 58 = 5 := by unfold zK; rw [h.2.1 58 (by decide)]; rfl
theorem lk_59 {H : zH} (h : zLay H) : zK H 59 = 100 := by unfold zK; rw [h.2.1 59 (by decide)]; rfl
theorem ln_59 {H : zH} (h : zLay H) : zN H 59 = 9 := by unfold zN; rw [h.2.1 59 (by decide)]; rfl
theorem lk_60 {H : zH} (h : zLay H) : zK H 60 = 100 := by unfold zK; rw [h.2.1 60 (by decide)]; rfl
theorem ln_60 {H : zH} (h : zLay H) : zN H 60 = 331 := by unfold zN; rw [h.2.1 60 (by decide)]; rfl
theorem lk_61 {H : zH} (h : zLay H) : zK H 61 = 5 := by unfold zK; rw [h.2.1 61 (by decide)]; rfl
theorem lk_62 {H : zH} (h : zLay H) : zK H 62 = 100 := by unfold zK; rw [h.2.1 62 (by decide)]; rfl
theorem ln_62 {H : zH} (h : zLay H) : zN H 62 = 9 := by unfold zN; rw [h.2.1 62 (by decide)]; rfl
theorem lk_63 {H : zH} (h : zLay H) : zK H 63 = 100 := by unfold zK; rw [h.2.1 63 (by decide)]; rfl
theorem ln_63 {H : zH} (h : zLay H) : zN H 63 = 331 := by unfold zN; rw [h.2.1 63 (by decide)]; rfl
theorem lk_64 {H : zH} (h : zLay H) : zK H 64 = 5 := by unfold zK; rw [h.2.1 64 (by decide)]; rfl
theorem lk_65 {H : zH} (h : zLay H) : zK H 65 = 100 := by unfold zK; rw [h.2.1 65 (by decide)]; rfl
theorem ln_65 {H : zH} (h : zLay H) : zN H 65 = 9 := by unfold zN; rw [h.2.1 65 (by decide)]; rfl
theorem lk_66 {H : zH} (h : zLay H) : zK H 66 = 100 := by unfold zK; rw [h.2.1 66 (by decide)]; rfl
theorem ln_66 {H : zH} (h : zLay H) : zN H 66 = 792 := by unfold zN; rw [h.2.1 66 (by decide)]; rfl
theorem lk_67 {H : zH} (h : zLay H) : zK H 67 = 5 := by unfold zK; rw [h.2.1 67 (by decide)]; rfl
theorem lk_68 {H : zH} (h : zLay H) : zK H 68 = 100 := by unfold zK; rw [h.2.1 68 (by decide)]; rfl
theorem ln_68 {H : zH} (h : zLay H) : zN H 68 = 9 := by unfold zN; rw [h.2.1 68 (by decide)]; rfl
theorem lk_69 {H : zH} (h : zLay H) : zK H 69 = 100 := by unfold zK; rw [h.2.1 69 (by decide)]; rfl
theorem ln_69 {H : zH} (h : zLay H) : zN H 69 = 792 := by unfold zN; rw [h.2.1 69 (by decide)]; rfl
theorem lk_70 {H : zH} (h : zLay H) : zK H 70 = 7 := by unfold zK; rw [h.2.1 70 (by decide)]; rfl
theorem lk_71 {H : zH} (h : zLay H) : zK H 71 = 100 := by unfold zK; rw [h.2.1 71 (by decide)]; rfl
theorem ln_71 {H : zH} (h : zLay H) : zN H 71 = 64 := by unfold zN; rw [h.2.1 71 (by decide)]; rfl
theorem lk_72 {H : zH} (h : zLay H) : zK H 72 = 100 := by unfold zK; rw [h.2.1 72 (by decide)]; rfl
theorem ln_72 {H : zH} (h : zLay H) : zN H 72 = 8 := by unfold zN; rw [h.2.1 72 (by decide)]; rfl
theorem lk_73 {H : zH} (h : zLay H) : zK H 73 = 100 := by unfold zK; rw [h.2.1 73 (by decide)]; rfl
theorem ln_73 {H : zH} (h : zLay H) : zN H 73 = 1792 := by unfold zN; rw [h.2.1 73 (by decide)]; rfl
theorem lk_74 {H : zH} (h : zLay H) : zK H 74 = 100 := by unfold zK; rw [h.2.1 74 (by decide)]; rfl
theorem ln_74 {H : zH} (h : zLay H) : zN H 74 = 256 := by unfold zN; rw [h.2.1 74 (by decide)]; rfl
theorem lk_75 {H : zH} (h : zLay H) : zK H 75 = 100 := by unfold zK; rw [h.2.1 75 (by decide)]; rfl
theorem ln_75 {H : zH} (h : zLay H) : zN H 75 = 256 := by unfold zN; rw [h.2.1 75 (by decide)]; rfl
theorem lk_76 {H : zH} (h : zLay H) : zK H 76 = 100 := by unfold zK; rw [h.2.1 76 (by decide)]; rfl
theorem ln_76 {H : zH} (h : zLay H) : zN H 76 = 256 := by unfold zN; rw [h.2.1 76 (by decide)]; rfl
theorem lk_77 {H : zH} (h : zLay H) : zK H 77 = 103 := by unfold zK; rw [h.2.1 77 (by decide)]; rfl
theorem ln_77 {H : zH} (h : zLay H) : zN H 77 = 256 := by unfold zN; rw [h.2.1 77 (by decide)]; rfl
theorem lk_78 {H : zH} (h : zLay H) : zK H 78 = 10 := by unfold zK; rw [h.2.1 78 (by decide)]; rfl
theorem lk_79 {H : zH} (h : zLay H) : zK H 79 = 103 := by unfold zK; rw [h.2.1 79 (by decide)]; rfl
theorem ln_79 {H : zH} (h : zLay H) : zN H 79 = 305 := by unfold zN; rw [h.2.1 79 (by decide)]; rfl
theorem lk_80 {H : zH} (h : zLay H) : zK H 80 = 103 := by unfold zK; rw [h.2.1 80 (by decide)]; rfl
theorem ln_80 {H : zH} (h : zLay H) : zN H 80 = 305 := by unfold zN; rw [h.2.1 80 (by decide)]; rfl
theorem lk_81 {H : zH} (h : zLay H) : zK H 81 = 103 := by unfold zK; rw [h.2.1 81 (by decide)]; rfl
theorem ln_81 {H : zH} (h : zLay H) : zN H 81 = 61 := by unfold zN; rw [h.2.1 81 (by decide)]; rfl
theorem lk_82 {H : zH} (h : zLay H) : zK H 82 = 103 := by unfold zK; rw [h.2.1 82 (by decide)]; rfl
theorem ln_82 {H : zH} (h : zLay H) : zN H 82 = 488 := by unfold zN; rw [h.2.1 82 (by decide)]; rfl
theorem lk_83 {H : zH} (h : zLay H) : zK H 83 = 103 := by unfold zK; rw [h.2.1 83 (by decide)]; rfl
theorem ln_83 {H : zH} (h : zLay H) : zN H 83 = 120 := by unfold zN; rw [h.2.1 83 (by decide)]; rfl
theorem lk_84 {H : zH} (h : zLay H) : zK H 84 = 103 := by unfold zK; rw [h.2.1 84 (by decide)]; rfl
theorem ln_84 {H : zH} (h : zLay H) : zN H 84 = 488 := by unfold zN; rw [h.2.1 84 (by decide)]; rfl
theorem lk_85 {H : zH} (h : zLay H) : zK H 85 = 103 := by unfold zK; rw [h.2.1 85 (by decide)]; rfl
theorem ln_85 {H : zH} (h : zLay H) : zN H 85 = 5 := by unfold zN; rw [h.2.1 85 (by decide)]; rfl
theorem lk_86 {H : zH} (h : zLay H) : zK H 86 = 103 := by unfold zK; rw [h.2.1 86 (by decide)]; rfl
theorem ln_86 {H : zH} (h : zLay H) : zN H 86 = 5 := by unfold zN; rw [h.2.1 86 (by decide)]; rfl
theorem lk_87 {H : zH} (h : zLay H) : zK H 87 = 6 := by unfold zK; rw [h.2.1 87 (by decide)]; rfl
theorem lk_88 {H : zH} (h : zLay H) : zK H 88 = 100 := by unfold zK; rw [h.2.1 88 (by decide)]; rfl
theorem ln_88 {H : zH} (h : zLay H) : zN H 88 = 100 := by unfold zN; rw [h.2.1 88 (by decide)]; rfl
theorem lk_89 {H : zH} (h : zLay H) : zK H 89 = 100 := by unfold zK; rw [h.2.1 89 (by decide)]; rfl
theorem ln_89 {H : zH} (h : zLay H) : zN H 89 = 100 := by unfold zN; rw [h.2.1 89 (by decide)]; rfl
theorem lk_90 {H : zH} (h : zLay H) : zK H 90 = 100 := by unfold zK; rw [h.2.1 90 (by decide)]; rfl
theorem ln_90 {H : zH} (h : zLay H) : zN H 90 = 300 := by unfold zN; rw [h.2.1 90 (by decide)]; rfl
theorem lk_91 {H : zH} (h : zLay H) : zK H 91 = 100 := by unfold zK; rw [h.2.1 91 (by decide)]; rfl
theorem ln_91 {H : zH} (h : zLay H) : zN H 91 = 300 := by unfold zN; rw [h.2.1 91 (by decide)]; rfl
theorem lk_92 {H : zH} (h : zLay H) : zK H 92 = 100 := by unfold zK; rw [h.2.1 92 (by decide)]; rfl
theorem ln_92 {H : zH} (h : zLay H) : zN H 92 = 100 := by unfold zN; rw [h.2.1 92 (by decide)]; rfl
theorem lk_93 {H : zH} (h : zLay H) : zK H 93 = 100 := by unfold zK; rw [h.2.1 93 (by decide)]; rfl
theorem ln_93 {H : zH} (h : zLay H) : zN H 93 = 40 := by unfold zN; rw [h.2.1 93 (by decide)]; rfl
theorem lk_94 {H : zH} (h : zLay H) : zK H 94 = 4 := by unfold zK; rw [h.2.1 94 (by decide)]; rfl
theorem lk_95 {H : zH} (h : zLay H) : zK H 95 = 100 := by unfold zK; rw [h.2.1 95 (by decide)]; rfl
theorem ln_95 {H : zH} (h : zLay H) : zN H 95 = 400 := by unfold zN; rw [h.2.1 95 (by decide)]; rfl
theorem lk_96 {H : zH} (h : zLay H) : zK H 96 = 100 := by unfold zK; rw [h.2.1 96 (by decide)]; rfl
theorem ln_96 {H : zH} (h : zLay H) : zN H 96 = 120 := by unfold zN; rw [h.2.1 96 (by decide)]; rfl
theorem lk_97 {H : zH} (h : zLay H) : zK H 97 = 100 := by unfold zK; rw [h.2.1 97 (by decide)]; rfl
theorem ln_97 {H : zH} (h : zLay H) : zN H 97 = 120 := by unfold zN; rw [h.2.1 97 (by decide)]; rfl
theorem lk_98 {H : zH} (h : zLay H) : zK H 98 = 100 := by unfold zK; rw [h.2.1 98 (by decide)]; rfl
theorem ln_98 {H : zH} (h : zLay H) : zN H 98 = 400 := by unfold zN; rw [h.2.1 98 (by decide)]; rfl
theorem lk_99 {H : zH} (h : zLay H) : zK H 99 = 100 := by unfold zK; rw [h.2.1 99 (by decide)]; rfl
theorem ln_99 {H : zH} (h : zLay H) : zN H 99 = 8 := by unfold zN; rw [h.2.1 99 (by decide)]; rfl
theorem lk_100 {H : zH} (h : zLay H) : zK H 100 = 4 := by unfold zK; rw [h.2.1 100 (by decide)]; rfl
theorem lk_101 {H : zH} (h : zLay H) : zK H 101 = 100 := by unfold zK; rw [h.2.1 101 (by decide)]; rfl
theorem ln_101 {H : zH} (h : zLay H) : zN H 101 = 400 := by unfold zN; rw [h.2.1 101 (by decide)]; rfl
theorem lk_102 {H : zH} (h : zLay H) : zK H 102 = 100 := by unfold zK; rw [h.2.1 102 (by decide)]; rfl
theorem ln_102 {H : zH} (h : zLay H) : zN H 102 = 120 := by unfold zN; rw [h.2.1 102 (by decide)]; rfl
theorem lk_103 {H : zH} (h : zLay H) : zK H 103 = 100 := by unfold zK; rw [h.2.1 103 (by decide)]; rfl
theorem ln_103 {H : zH} (h : zLay H) : zN H 103 = 120 := by unfold zN; rw [h.2.1 103 (by decide)]; rfl
theorem lk_104 {H : zH} (h : zLay H) : zK H 104 = 100 := by unfold zK; rw [h.2.1 104 (by decide)]; rfl
theorem ln_104 {H : zH} (h : zLay H) : zN H 104 = 400 := by unfold zN; rw [h.2.1 104 (by decide)]; rfl
theorem lk_105 {H : zH} (h : zLay H) : zK H 105 = 100 := by unfold zK; rw [h.2.1 105 (by decide)]; rfl
theorem ln_105 {H : zH} (h : zLay H) : zN H 105 = 8 := by unfold zN; rw [h.2.1 105 (by decide)]; rfl
theorem lk_106 {H : zH} (h : zLay H) : zK H 106 = 12 := by unfold zK; rw [h.2.1 106 (by decide)]; rfl
theorem lk_107 {H : zH} (h : zLay H) : zK H 107 = 101 := by unfold zK; rw [h.2.1 107 (by decide)]; rfl
theorem ln_107 {H : zH} (h : zLay H) : zN H 107 = 400 := by unfold zN; rw [h.2.1 107 (by decide)]; rfl
theorem lk_108 {H : zH} (h : zLay H) : zK H 108 = 101 := by unfold zK; rw [h.2.1 108 (by decide)]; rfl
theorem ln_108 {H : zH} (h : zLay H) : zN H 108 = 96 := by unfold zN; rw [h.2.1 108 (by decide)]; rfl
theorem lk_109 {H : zH} (h : zLay H) : zK H 109 = 100 := by unfold zK; rw [h.2.1 109 (by decide)]; rfl
theorem ln_109 {H : zH} (h : zLay H) : zN H 109 = 8 := by unfold zN; rw [h.2.1 109 (by decide)]; rfl
theorem lk_110 {H : zH} (h : zLay H) : zK H 110 = 100 := by unfold zK; rw [h.2.1 110 (by decide)]; rfl
theorem ln_110 {H : zH} (h : zLay H) : zN H 110 = 8 := by unfold zN; rw [h.2.1 110 (by decide)]; rfl
theorem lk_111 {H : zH} (h : zLay H) : zK H 111 = 102 := by unfold zK; rw [h.2.1 111 (by decide)]; rfl
theorem ln_111 {H : zH} (h : zLay H) : zN H 111 = 8 := by unfold zN; rw [h.2.1 111 (by decide)]; rfl
theorem lk_112 {H : zH} (h : zLay H) : zK H 112 = 102 := by unfold zK; rw [h.2.1 112 (by decide)]; rfl
theorem ln_112 {H : zH} (h : zLay H) : zN H 112 = 64 := by unfold zN; rw [h.2.1 112 (by decide)]; rfl
theorem lk_113 {H : zH} (h : zLay H) : zK H 113 = 100 := by unfold zK; rw [h.2.1 113 (by decide)]; rfl
theorem ln_113 {H : zH} (h : zLay H) : zN H 113 = 200 := by unfold zN; rw [h.2.1 113 (by decide)]; rfl
theorem lk_114 {H : zH} (h : zLay H) : zK H 114 = 100 := by unfold zK; rw [h.2.1 114 (by decide)]; rfl
theorem ln_114 {H : zH} (h : zLay H) : zN H 114 = 200 := by unfold zN; rw [h.2.1 114 (by decide)]; rfl
theorem lk_115 {H : zH} (h : zLay H) : zK H 115 = 100 := by unfold zK; rw [h.2.1 115 (by decide)]; rfl
theorem ln_115 {H : zH} (h : zLay H) : zN H 115 = 40 := by unfold zN; rw [h.2.1 115 (by decide)]; rfl
theorem lk_116 {H : zH} (h : zLay H) : zK H 116 = 100 := by unfold zK; rw [h.2.1 116 (by decide)]; rfl
theorem ln_116 {H : zH} (h : zLay H) : zN H 116 = 246 := by unfold zN; rw [h.2.1 116 (by decide)]; rfl
theorem lk_117 {H : zH} (h : zLay H) : zK H 117 = 100 := by unfold zK; rw [h.2.1 117 (by decide)]; rfl
theorem ln_117 {H : zH} (h : zLay H) : zN H 117 = 41 := by unfold zN; rw [h.2.1 117 (by decide)]; rfl
theorem lk_118 {H : zH} (h : zLay H) : zK H 118 = 100 := by unfold zK; rw [h.2.1 118 (by decide)]; rfl
theorem ln_118 {H : zH} (h : zLay H) : zN H 118 = 6 := by unfold zN; rw [h.2.1 118 (by decide)]; rfl
theorem lk_119 {H : zH} (h : zLay H) : zK H 119 = 100 := by unfold zK; rw [h.2.1 119 (by decide)]; rfl
theorem ln_119 {H : zH} (h : zLay H) : zN H 119 = 792 := by unfold zN; rw [h.2.1 119 (by decide)]; rfl
theorem lk_120 {H : zH} (h : zLay H) : zK H 120 = 100 := by unfold zK; rw [h.2.1 120 (by decide)]; rfl
theorem ln_120 {H : zH} (h : zLay H) : zN H 120 = 32768 := by unfold zN; rw [h.2.1 120 (by decide)]; rfl
theorem lk_121 {H : zH} (h : zLay H) : zK H 121 = 102 := by unfold zK; rw [h.2.1 121 (by decide)]; rfl
theorem ln_121 {H : zH} (h : zLay H) : zN H 121 = 15840 := by unfold zN; rw [h.2.1 121 (by decide)]; rfl
theorem lk_122 {H : zH} (h : zLay H) : zK H 122 = 102 := by unfold zK; rw [h.2.1 122 (by decide)]; rfl
theorem ln_122 {H : zH} (h : zLay H) : zN H 122 = 792 := by unfold zN; rw [h.2.1 122 (by decide)]; rfl
theorem lk_123 {H : zH} (h : zLay H) : zK H 123 = 102 := by unfold zK; rw [h.2.1 123 (by decide)]; rfl
theorem ln_123 {H : zH} (h : zLay H) : zN H 123 = 792 := by unfold zN; rw [h.2.1 123 (by decide)]; rfl
theorem lk_124 {H : zH} (h : zLay H) : zK H 124 = 100 := by unfold zK; rw [h.2.1 124 (by decide)]; rfl
theorem ln_124 {H : zH} (h : zLay H) : zN H 124 = 7 := by unfold zN; rw [h.2.1 124 (by decide)]; rfl
theorem lk_125 {H : zH} (h : zLay H) : zK H 125 = 100 := by unfold zK; rw [h.2.1 125 (by decide)]; rfl
theorem ln_125 {H : zH} (h : zLay H) : zN H 125 = 7 := by unfold zN; rw [h.2.1 125 (by decide)]; rfl
theorem lk_126 {H : zH} (h : zLay H) : zK H 126 = 100 := by unfold zK; rw [h.2.1 126 (by decide)]; rfl
theorem ln_126 {H : zH} (h : zLay H) : zN H 126 = 7 := by unfold zN; rw [h.2.1 126 (by decide)]; rfl
theorem lk_127 {H : zH} (h : zLay H) : zK H 127 = 100 := by unfold zK; rw [h.2.1 127 (by decide)]; rfl
theorem ln_127 {H : zH} (h : zLay H) : zN H 127 = 7 := by unfold zN; rw [h.2.1 127 (by decide)]; rfl
theorem lk_128 {H : zH} (h : zLay H) : zK H 128 = 100 := by unfold zK; rw [h.2.1 128 (by decide)]; rfl
theorem ln_128 {H : zH} (h : zLay H) : zN H 128 = 7 := by unfold zN; rw [h.2.1 128 (by decide)]; rfl
theorem lk_129 {H : zH} (h : zLay H) : zK H 129 = 100 := by unfold zK; rw [h.2.1 129 (by decide)]; rfl
theorem ln_129 {H : zH} (h : zLay H) : zN H 129 = 64 := by unfold zN; rw [h.2.1 129 (by decide)]; rfl
theorem lk_130 {H : zH} (h : zLay H) : zK H 130 = 100 := by unfold zK; rw [h.2.1 130 (by decide)]; rfl
theorem ln_130 {H : zH} (h : zLay H) : zN H 130 = 8 := by unfold zN; rw [h.2.1 130 (by decide)]; rfl
theorem lk_131 {H : zH} (h : zLay H) : zK H 131 = 100 := by unfold zK; rw [h.2.1 131 (by decide)]; rfl
theorem ln_131 {H : zH} (h : zLay H) : zN H 131 = 8 := by unfold zN; rw [h.2.1 131 (by decide)]; rfl
theorem lk_132 {H : zH} (h : zLay H) : zK H 132 = 100 := by unfold zK; rw [h.2.1 132 (by decide)]; rfl
theorem ln_132 {H : zH} (h : zLay H) : zN H 132 = 256 := by unfold zN; rw [h.2.1 132 (by decide)]; rfl
theorem lk_133 {H : zH} (h : zLay H) : zK H 133 = 103 := by unfold zK; rw [h.2.1 133 (by decide)]; rfl
theorem ln_133 {H : zH} (h : zLay H) : zN H 133 = 256 := by unfold zN; rw [h.2.1 133 (by decide)]; rfl
theorem lk_134 {H : zH} (h : zLay H) : zK H 134 = 100 := by unfold zK; rw [h.2.1 134 (by decide)]; rfl
theorem ln_134 {H : zH} (h : zLay H) : zN H 134 = 8 := by unfold zN; rw [h.2.1 134 (by decide)]; rfl
theorem lk_135 {H : zH} (h : zLay H) : zK H 135 = 100 := by unfold zK; rw [h.2.1 135 (by decide)]; rfl
theorem ln_135 {H : zH} (h : zLay H) : zN H 135 = 80 := by unfold zN; rw [h.2.1 135 (by decide)]; rfl
theorem lk_136 {H : zH} (h : zLay H) : zK H 136 = 101 := by unfold zK; rw [h.2.1 136 (by decide)]; rfl
theorem ln_136 {H : zH} (h : zLay H) : zN H 136 = 240 := by unfold zN; rw [h.2.1 136 (by decide)]; rfl
theorem lk_137 {H : zH} (h : zLay H) : zK H 137 = 100 := by unfold zK; rw [h.2.1 137 (by decide)]; rfl
theorem ln_137 {H : zH} (h : zLay H) : zN H 137 = 20 := by unfold zN; rw [h.2.1 137 (by decide)]; rfl
theorem lk_138 {H : zH} (h : zLay H) : zK H 138 = 100 := by unfold zK; rw [h.2.1 138 (by decide)]; rfl
theorem ln_138 {H : zH} (h : zLay H) : zN H 138 = 25 := by unfold zN; rw [h.2.1 138 (by decide)]; rfl
theorem lk_139 {H : zH} (h : zLay H) : zK H 139 = 100 := by unfold zK; rw [h.2.1 139 (by decide)]; rfl
theorem ln_139 {H : zH} (h : zLay H) : zN H 139 = 8 := by unfold zN; rw [h.2.1 139 (by decide)]; rfl
theorem lk_140 {H : zH} (h : zLay H) : zK H 140 = 100 := by unfold zK; rw [h.2.1 140 (by decide)]; rfl
theorem ln_140 {H : zH} (h : zLay H) : zN H 140 = 64 := by unfold zN; rw [h.2.1 140 (by decide)]; rfl
theorem lk_141 {H : zH} (h : zLay H) : zK H 141 = 103 := by unfold zK; rw [h.2.1 141 (by decide)]; rfl
theorem ln_141 {H : zH} (h : zLay H) : zN H 141 = 7 := by unfold zN; rw [h.2.1 141 (by decide)]; rfl
theorem lk_142 {H : zH} (h : zLay H) : zK H 142 = 100 := by unfold zK; rw [h.2.1 142 (by decide)]; rfl
theorem ln_142 {H : zH} (h : zLay H) : zN H 142 = 50 := by unfold zN; rw [h.2.1 142 (by decide)]; rfl
theorem lk_143 {H : zH} (h : zLay H) : zK H 143 = 100 := by unfold zK; rw [h.2.1 143 (by decide)]; rfl
theorem ln_143 {H : zH} (h : zLay H) : zN H 143 = 50 := by unfold zN; rw [h.2.1 143 (by decide)]; rfl
theorem lk_144 {H : zH} (h : zLay H) : zK H 144 = 100 := by unfold zK; rw [h.2.1 144 (by decide)]; rfl
theorem ln_144 {H : zH} (h : zLay H) : zN H 144 = 400 := by unfold zN; rw [h.2.1 144 (by decide)]; rfl
theorem lk_145 {H : zH} (h : zLay H) : zK H 145 = 100 := by unfold zK; rw [h.2.1 145 (by decide)]; rfl
theorem ln_145 {H : zH} (h : zLay H) : zN H 145 = 300 := by unfold zN; rw [h.2.1 145 (by decide)]; rfl
theorem lk_146 {H : zH} (h : zLay H) : zK H 146 = 100 := by unfold zK; rw [h.2.1 146 (by decide)]; rfl
theorem ln_146 {H : zH} (h : zLay H) : zN H 146 = 300 := by unfold zN; rw [h.2.1 146 (by decide)]; rfl
theorem lk_147 {H : zH} (h : zLay H) : zK H 147 = 100 := by unfold zK; rw [h.2.1 147 (by decide)]; rfl
theorem ln_147 {H : zH} (h : zLay H) : zN H 147 = 100 := by unfold zN; rw [h.2.1 147 (by decide)]; rfl
theorem lk_148 {H : zH} (h : zLay H) : zK H 148 = 100 := by unfold zK; rw [h.2.1 148 (by decide)]; rfl
theorem ln_148 {H : zH} (h : zLay H) : zN H 148 = 100 := by unfold zN; rw [h.2.1 148 (by decide)]; rfl
theorem lk_149 {H : zH} (h : zLay H) : zK H 149 = 100 := by unfold zK; rw [h.2.1 149 (by decide)]; rfl
theorem ln_149 {H : zH} (h : zLay H) : zN H 149 = 240 := by unfold zN; rw [h.2.1 149 (by decide)]; rfl
theorem lk_150 {H : zH} (h : zLay H) : zK H 150 = 100 := by unfold zK; rw [h.2.1 150 (by decide)]; rfl
theorem ln_150 {H : zH} (h : zLay H) : zN H 150 = 240 := by unfold zN; rw [h.2.1 150 (by decide)]; rfl
theorem lk_151 {H : zH} (h : zLay H) : zK H 151 = 100 := by unfold zK; rw [h.2.1 151 (by decide)]; rfl
theorem ln_151 {H : zH} (h : zLay H) : zN H 151 = 240 := by unfold zN; rw [h.2.1 151 (by decide)]; rfl
theorem lk_152 {H : zH} (h : zLay H) : zK H 152 = 101 := by unfold zK; rw [h.2.1 152 (by decide)]; rfl
theorem ln_152 {H : zH} (h : zLay H) : zN H 152 = 2880 := by unfold zN; rw [h.2.1 152 (by decide)]; rfl
theorem lk_153 {H : zH} (h : zLay H) : zK H 153 = 100 := by unfold zK; rw [h.2.1 153 (by decide)]; rfl
theorem ln_153 {H : zH} (h : zLay H) : zN H 153 = 240 := by unfold zN; rw [h.2.1 153 (by decide)]; rfl
theorem lk_154 {H : zH} (h : zLay H) : zK H 154 = 100 := by unfold zK; rw [h.2.1 154 (by decide)]; rfl
theorem ln_154 {H : zH} (h : zLay H) : zN H 154 = 800 := by unfold zN; rw [h.2.1 154 (by decide)]; rfl
theorem lk_155 {H : zH} (h : zLay H) : zK H 155 = 100 := by unfold zK; rw [h.2.1 155 (by decide)]; rfl
theorem ln_155 {H : zH} (h : zLay H) : zN H 155 = 800 := by unfold zN; rw [h.2.1 155 (by decide)]; rfl
theorem lk_156 {H : zH} (h : zLay H) : zK H 156 = 100 := by unfold zK; rw [h.2.1 156 (by decide)]; rfl
theorem ln_156 {H : zH} (h : zLay H) : zN H 156 = 16 := by unfold zN; rw [h.2.1 156 (by decide)]; rfl
theorem lk_157 {H : zH} (h : zLay H) : zK H 157 = 102 := by unfold zK; rw [h.2.1 157 (by decide)]; rfl
theorem ln_157 {H : zH} (h : zLay H) : zN H 157 = 16 := by unfold zN; rw [h.2.1 157 (by decide)]; rfl
theorem lk_158 {H : zH} (h : zLay H) : zK H 158 = 100 := by unfold zK; rw [h.2.1 158 (by decide)]; rfl
theorem ln_158 {H : zH} (h : zLay H) : zN H 158 = 60 := by unfold zN; rw [h.2.1 158 (by decide)]; rfl
theorem lk_159 {H : zH} (h : zLay H) : zK H 159 = 100 := by unfold zK; rw [h.2.1 159 (by decide)]; rfl
theorem ln_159 {H : zH} (h : zLay H) : zN H 159 = 60 := by unfold zN; rw [h.2.1 159 (by decide)]; rfl
theorem lk_160 {H : zH} (h : zLay H) : zK H 160 = 103 := by unfold zK; rw [h.2.1 160 (by decide)]; rfl
theorem ln_160 {H : zH} (h : zLay H) : zN H 160 = 488 := by unfold zN; rw [h.2.1 160 (by decide)]; rfl
theorem lk_161 {H : zH} (h : zLay H) : zK H 161 = 103 := by unfold zK; rw [h.2.1 161 (by decide)]; rfl
theorem ln_161 {H : zH} (h : zLay H) : zN H 161 = 1403 := by unfold zN; rw [h.2.1 161 (by decide)]; rfl
theorem lk_162 {H : zH} (h : zLay H) : zK H 162 = 100 := by unfold zK; rw [h.2.1 162 (by decide)]; rfl
theorem ln_162 {H : zH} (h : zLay H) : zN H 162 = 68747 := by unfold zN; rw [h.2.1 162 (by decide)]; rfl
theorem lk_163 {H : zH} (h : zLay H) : zK H 163 = 100 := by unfold zK; rw [h.2.1 163 (by decide)]; rfl
theorem ln_163 {H : zH} (h : zLay H) : zN H 163 = 6 := by unfold zN; rw [h.2.1 163 (by decide)]; rfl
theorem lk_164 {H : zH} (h : zLay H) : zK H 164 = 101 := by unfold zK; rw [h.2.1 164 (by decide)]; rfl
theorem ln_164 {H : zH} (h : zLay H) : zN H 164 = 800 := by unfold zN; rw [h.2.1 164 (by decide)]; rfl
theorem lr_1_0 {H : zH} (h : zLay H) : zR H 1 0 = some 2 := h.2.2 (1, 0, 2) (by decide)
theorem lr_1_1 {H : zH} (h : zLay H) : zR H 1 1 = some 6 := h.2.2 (1, 1, 6) (by decide)
theorem lr_1_2 {H : zH} (h : zLay H) : zR H 1 2 = some 11 := h.2.2 (1, 2, 11) (by decide)
theorem lr_1_3 {H : zH} (h : zLay H) : zR H 1 3 = some 21 := h.2.2 (1, 3, 21) (by decide)
theorem lr_1_4 {H : zH} (h : zLay H) : zR H 1 4 = some 29 := h.2.2 (1, 4, 29) (by decide)
theorem lr_1_5 {H : zH} (h : zLay H) : zR H 1 5 = some 70 := h.2.2 (1, 5, 70) (by decide)
theorem lr_1_6 {H : zH} (h : zLay H) : zR H 1 6 = some 78 := h.2.2 (1, 6, 78) (by decide)
theorem lr_1_7 {H : zH} (h : zLay H) : zR H 1 7 = some 87 := h.2.2 (1, 7, 87) (by decide)
theorem lr_2_0 {H : zH} (h : zLay H) : zR H 2 0 = some 3 := h.2.2 (2, 0, 3) (by decide)
theorem lr_2_1 {H : zH} (h : zLay H) : zR H 2 1 = some 4 := h.2.2 (2, 1, 4) (by decide)
theorem lr_2_2 {H : zH} (h : zLay H) : zR H 2 2 = some 5 := h.2.2 (2, 2, 5) (by decide)
theorem lr_6_0 {H : zH} (h : zLay H) : zR H 6 0 = some 7 := h.2.2 (6, 0, 7) (by decide)
theorem lr_6_1 {H : zH} (h : zLay H) : zR H 6 1 = some 8 := h.2.2 (6, 1, 8) (by decide)
theorem lr_6_2 {H : zH} (h : zLay H) : zR H 6 2 = some 9 := h.2.2 (6, 2, 9) (by decide)
theorem lr_6_4 {H : zH} (h : zLay H) : zR H 6 4 = some 10 := h.2.2 (6, 4, 10) (by decide)
theorem lr_11_0 {H : zH} (h : zLay H) : zR H 11 0 = some 12 := h.2.2 (11, 0, 12) (by decide)
theorem lr_11_1 {H : zH} (h : zLay H) : zR H 11 1 = some 13 := h.2.2 (11, 1, 13) (by decide)
theorem lr_11_2 {H : zH} (h : zLay H) : zR H 11 2 = some 14 := h.2.2 (11, 2, 14) (by decide)
theorem lr_11_3 {H : zH} (h : zLay H) : zR H 11 3 = some 15 := h.2.2 (11, 3, 15) (by decide)
theorem lr_11_5 {H : zH} (h : zLay H) : zR H 11 5 = some 16 := h.2.2 (11, 5, 16) (by decide)
theorem lr_11_7 {H : zH} (h : zLay H) : zR H 11 7 = some 17 := h.2.2 (11, 7, 17) (by decide)
theorem lr_11_8 {H : zH} (h : zLay H) : zR H 11 8 = some 18 := h.2.2 (11, 8, 18) (by decide)
theorem lr_11_10 {H : zH} (h : zLay H) : zR H 11 10 = some 19 := h.2.2 (11, 10, 19) (by decide)
theorem lr_11_11 {H : zH} (h : zLay H) : zR H 11 11 = some 20 := h.2.2 (11, 11, 20) (by decide)
theorem lr_21_0 {H : zH} (h : zLay H) : zR H 21 0 = some 22 := h.2.2 (21, 0, 22) (by decide)
theorem lr_21_1 {H : zH} (h : zLay H) : zR H 21 1 = some 23 := h.2.2 (21, 1, 23) (by decide)
theorem lr_21_2 {H : zH} (h : zLay H) : zR H 21 2 = some 24 := h.2.2 (21, 2, 24) (by decide)
theorem lr_21_4 {H : zH} (h : zLay H) : zR H 21 4 = some 25 := h.2.2 (21, 4, 25) (by decide)
theorem lr_21_5 {H : zH} (h : zLay H) : zR H 21 5 = some 26 := h.2.2 (21, 5, 26) (by decide)
theorem lr_21_6 {H : zH} (h : zLay H) : zR H 21 6 = some 27 := h.2.2 (21, 6, 27) (by decide)
theorem lr_21_7 {H : zH} (h : zLay H) : zR H 21 7 = some 28 := h.2.2 (21, 7, 28) (by decide)
theorem lr_29_0 {H : zH} (h : zLay H) : zR H 29 0 = some 30 := h.2.2 (29, 0, 30) (by decide)
theorem lr_29_1 {H : zH} (h : zLay H) : zR H 29 1 = some 31 := h.2.2 (29, 1, 31) (by decide)
theorem lr_29_4 {H : zH} (h : zLay H) : zR H 29 4 = some 32 := h.2.2 (29, 4, 32) (by decide)
theorem lr_29_6 {H : zH} (h : zLay H) : zR H 29 6 = some 33 := h.2.2 (29, 6, 33) (by decide)
theorem lr_29_7 {H : zH} (h : zLay H) : zR H 29 7 = some 34 := h.2.2 (29, 7, 34) (by decide)
theorem lr_29_8 {H : zH} (h : zLay H) : zR H 29 8 = some 35 := h.2.2 (29, 8, 35) (by decide)
theorem lr_29_9 {H : zH} (h : zLay H) : zR H 29 9 = some 36 := h.2.2 (29, 9, 36) (by decide)
theorem lr_29_10 {H : zH} (h : zLay H) : zR H 29 10 = some 37 := h.2.2 (29, 10, 37) (by decide)
theorem lr_29_12 {H : zH} (h : zLay H) : zR H 29 12 = some 38 := h.2.2 (29, 12, 38) (by decide)
theorem lr_29_13 {H : zH} (h : zLay H) : zR H 29 13 = some 39 := h.2.2 (29, 13, 39) (by decide)
theorem lr_40_0 {H : zH} (h : zLay H) : zR H 40 0 = some 42 := h.2.2 (40, 0, 42) (by decide)
theorem lr_40_1 {H : zH} (h : zLay H) : zR H 40 1 = some 41 := h.2.2 (40, 1, 41) (by decide)
theorem lr_43_0 {H : zH} (h : zLay H) : zR H 43 0 = some 45 := h.2.2 (43, 0, 45) (by decide)
theorem lr_43_1 {H : zH} (h : zLay H) : zR H 43 1 = some 44 := h.2.2 (43, 1, 44) (by decide)
theorem lr_46_0 {H : zH} (h : zLay H) : zR H 46 0 = some 48 := h.2.2 (46, 0, 48) (by decide)
theorem lr_46_1 {H : zH} (h : zLay H) : zR H 46 1 = some 47 := h.2.2 (46, 1, 47) (by decide)
theorem lr_49_0 {H : zH} (h : zLay H) : zR H 49 0 = some 51 := h.2.2 (49, 0, 51) (by decide)
theorem lr_49_1 {H : zH} (h : zLay H) : zR H 49 1 = some 50 := h.2.2 (49, 1, 50) (by decide)
theorem lr_52_0 {H : zH} (h : zLay H) : zR H 52 0 = some 54 := h.2.2 (52, 0, 54) (by decide)
theorem lr_52_1 {H : zH} (h : zLay H) : zR H 52 1 = some 53 := h.2.2 (52, 1, 53) (by decide)
theorem lr_55_0 {H : zH} (h : zLay H) : zR H 55 0 = some 57 := h.2.2 (55, 0, 57) (by decide)
theorem lr_55_1 {H : zH} (h : zLay H) : zR H 55 1 = some 56 := h.2.2 (55, 1, 56) (by decide)
theorem lr_58_0 {H : zH} (h : zLay H) : zR H 58 0 = some 60 := h.2.2 (58, 0, 60) (by decide)
theorem lr_58_1 {H : zH} (h : zLay H) : zR H 58 1 = some 59 := h.2.2 (58, 1, 59) (by decide)
theorem lr_61_0 {H : zH} (h : zLay H) : zR H 61 0 = some 63 := h.2.2 (61, 0, 63) (by decide)
theorem lr_61_1 {H : zH} (h : zLay H) : zR H 61 1 = some 62 := h.2.2 (61, 1, 62) (by decide)
theorem lr_64_0 {H : zH} (h : zLay H) : zR H 64 0 = some 66 := h.2.2 (64, 0, 66) (by decide)
theorem lr_64_1 {H : zH} (h : zLay H) : zR H 64 1 = some 65 := h.2.2 (64, 1, 65) (by decide)
theorem lr_67_0 {H : zH} (h : zLay H) : zR H 67 0 = some 69 := h.2.2 (67, 0, 69) (by decide)
theorem lr_67_1 {H : zH} (h : zLay H) : zR H 67 1 = some 68 := h.2.2 (67, 1, 68) (by decide)
theorem lr_70_0 {H : zH} (h : zLay H) : zR H 70 0 = some 71 := h.2.2 (70, 0, 71) (by decide)
theorem lr_70_1 {H : zH} (h : zLay H) : zR H 70 1 = some 72 := h.2.2 (70, 1, 72) (by decide)
theorem lr_70_4 {H : zH} (h : zLay H) : zR H 70 4 = some 73 := h.2.2 (70, 4, 73) (by decide)
theorem lr_70_5 {H : zH} (h : zLay H) : zR H 70 5 = some 74 := h.2.2 (70, 5, 74) (by decide)
theorem lr_70_6 {H : zH} (h : zLay H) : zR H 70 6 = some 75 := h.2.2 (70, 6, 75) (by decide)
theorem lr_70_7 {H : zH} (h : zLay H) : zR H 70 7 = some 76 := h.2.2 (70, 7, 76) (by decide)
theorem lr_70_8 {H : zH} (h : zLay H) : zR H 70 8 = some 77 := h.2.2 (70, 8, 77) (by decide)
theorem lr_78_0 {H : zH} (h : zLay H) : zR H 78 0 = some 79 := h.2.2 (78, 0, 79) (by decide)
theorem lr_78_1 {H : zH} (h : zLay H) : zR H 78 1 = some 80 := h.2.2 (78, 1, 80) (by decide)
theorem lr_78_2 {H : zH} (h : zLay H) : zR H 78 2 = some 81 := h.2.2 (78, 2, 81) (by decide)
theorem lr_78_3 {H : zH} (h : zLay H) : zR H 78 3 = some 82 := h.2.2 (78, 3, 82) (by decide)
theorem lr_78_5 {H : zH} (h : zLay H) : zR H 78 5 = some 83 := h.2.2 (78, 5, 83) (by decide)
theorem lr_78_6 {H : zH} (h : zLay H) : zR H 78 6 = some 84 := h.2.2 (78, 6, 84) (by decide)
theorem lr_78_7 {H : zH} (h : zLay H) : zR H 78 7 = some 85 := h.2.2 (78, 7, 85) (by decide)
theorem lr_78_8 {H : zH} (h : zLay H) : zR H 78 8 = some 86 := h.2.2 (78, 8, 86) (by decide)
theorem lr_87_0 {H : zH} (h : zLay H) : zR H 87 0 = some 88 := h.2.2 (87, 0, 88) (by decide)
theorem lr_87_1 {H : zH} (h : zLay H) : zR H 87 1 = some 89 := h.2.2 (87, 1, 89) (by decide)
theorem lr_87_3 {H : zH} (h : zLay H) : zR H 87 3 = some 90 := h.2.2 (87, 3, 90) (by decide)
theorem lr_87_4 {H : zH} (h : zLay H) : zR H 87 4 = some 91 := h.2.2 (87, 4, 91) (by decide)
theorem lr_87_6 {H : zH} (h : zLay H) : zR H 87 6 = some 92 := h.2.2 (87, 6, 92) (by decide)
theorem lr_87_7 {H : zH} (h : zLay H) : zR H 87 7 = some 93 := h.2.2 (87, 7, 93) (by decide)
theorem lr_94_0 {H : zH} (h : zLay H) : zR H 94 0 = some 95 := h.2.2 (94, 0, 95) (by decide)
theorem lr_94_2 {H : zH} (h : zLay H) : zR H 94 2 = some 96 := h.2.2 (94, 2, 96) (by decide)
theorem lr_94_3 {H : zH} (h : zLay H) : zR H 94 3 = some 97 := h.2.2 (94, 3, 97) (by decide)
theorem lr_94_5 {H : zH} (h : zLay H) : zR H 94 5 = some 98 := h.2.2 (94, 5, 98) (by decide)
theorem lr_94_7 {H : zH} (h : zLay H) : zR H 94 7 = some 99 := h.2.2 (94, 7, 99) (by decide)
theorem lr_100_0 {H : zH} (h : zLay H) : zR H 100 0 = some 101 := h.2.2 (100, 0, 101) (by decide)
theorem lr_100_2 {H : zH} (h : zLay H) : zR H 100 2 = some 102 := h.2.2 (100, 2, 102) (by decide)
theorem lr_100_3 {H : zH} (h : zLay H) : zR H 100 3 = some 103 := h.2.2 (100, 3, 103) (by decide)
theorem lr_100_5 {H : zH} (h : zLay H) : zR H 100 5 = some 104 := h.2.2 (100, 5, 104) (by decide)
theorem lr_100_7 {H : zH} (h : zLay H) : zR H 100 7 = some 105 := h.2.2 (100, 7, 105) (by decide)
theorem lr_106_0 {H : zH} (h : zLay H) : zR H 106 0 = some 107 := h.2.2 (106, 0, 107) (by decide)
theorem lr_106_2 {H : zH} (h : zLay H) : zR H 106 2 = some 108 := h.2.2 (106, 2, 108) (by decide)
theorem lr_106_3 {H : zH} (h : zLay H) : zR H 106 3 = some 109 := h.2.2 (106, 3, 109) (by decide)
theorem lr_106_4 {H : zH} (h : zLay H) : zR H 106 4 = some 110 := h.2.2 (106, 4, 110) (by decide)
theorem lr_106_5 {H : zH} (h : zLay H) : zR H 106 5 = some 111 := h.2.2 (106, 5, 111) (by decide)
theorem lr_106_6 {H : zH} (h : zLay H) : zR H 106 6 = some 112 := h.2.2 (106, 6, 112) (by decide)
theorem lr_106_7 {H : zH} (h : zLay H) : zR H 106 7 = some 113 := h.2.2 (106, 7, 113) (by decide)
theorem lr_106_8 {H : zH} (h : zLay H) : zR H 106 8 = some 114 := h.2.2 (106, 8, 114) (by decide)
theorem lr_106_12 {H : zH} (h : zLay H) : zR H 106 12 = some 115 := h.2.2 (106, 12, 115) (by decide)
theorem lr_106_13 {H : zH} (h : zLay H) : zR H 106 13 = some 116 := h.2.2 (106, 13, 116) (by decide)
theorem lr_106_14 {H : zH} (h : zLay H) : zR H 106 14 = some 117 := h.2.2 (106, 14, 117) (by decide)
theorem lr_106_15 {H : zH} (h : zLay H) : zR H 106 15 = some 118 := h.2.2 (106, 15, 118) (by decide)
theorem lr_106_16 {H : zH} (h : zLay H) : zR H 106 16 = some 119 := h.2.2 (106, 16, 119) (by decide)
theorem lr_106_17 {H : zH} (h : zLay H) : zR H 106 17 = some 120 := h.2.2 (106, 17, 120) (by decide)
theorem lr_106_19 {H : zH} (h : zLay H) : zR H 106 19 = some 121 := h.2.2 (106, 19, 121) (by decide)
theorem lr_106_20 {H : zH} (h : zLay H) : zR H 106 20 = some 122 := h.2.2 (106, 20, 122) (by decide)
theorem lr_106_21 {H : zH} (h : zLay H) : zR H 106 21 = some 123 := h.2.2 (106, 21, 123) (by decide)
theorem lr_106_22 {H : zH} (h : zLay H) : zR H 106 22 = some 124 := h.2.2 (106, 22, 124) (by decide)
theorem lr_106_23 {H : zH} (h : zLay H) : zR H 106 23 = some 125 := h.2.2 (106, 23, 125) (by decide)
theorem lr_106_24 {H : zH} (h : zLay H) : zR H 106 24 = some 126 := h.2.2 (106, 24, 126) (by decide)
theorem lr_106_25 {H : zH} (h : zLay H) : zR H 106 25 = some 127 := h.2.2 (106, 25, 127) (by decide)
theorem lr_106_26 {H : zH} (h : zLay H) : zR H 106 26 = some 128 := h.2.2 (106, 26, 128) (by decide)
theorem lr_106_29 {H : zH} (h : zLay H) : zR H 106 29 = some 129 := h.2.2 (106, 29, 129) (by decide)
theorem lr_106_31 {H : zH} (h : zLay H) : zR H 106 31 = some 130 := h.2.2 (106, 31, 130) (by decide)
theorem lr_106_32 {H : zH} (h : zLay H) : zR H 106 32 = some 131 := h.2.2 (106, 32, 131) (by decide)
theorem lr_106_33 {H : zH} (h : zLay H) : zR H 106 33 = some 132 := h.2.2 (106, 33, 132) (by decide)
theorem lr_106_34 {H : zH} (h : zLay H) : zR H 106 34 = some 133 := h.2.2 (106, 34, 133) (by decide)
theorem lr_106_36 {H : zH} (h : zLay H) : zR H 106 36 = some 134 := h.2.2 (106, 36, 134) (by decide)
theorem lr_106_38 {H : zH} (h : zLay H) : zR H 106 38 = some 135 := h.2.2 (106, 38, 135) (by decide)
theorem lr_106_41 {H : zH} (h : zLay H) : zR H 106 41 = some 136 := h.2.2 (106, 41, 136) (by decide)
theorem lr_106_42 {H : zH} (h : zLay H) : zR H 106 42 = some 137 := h.2.2 (106, 42, 137) (by decide)
theorem lr_106_43 {H : zH} (h : zLay H) : zR H 106 43 = some 138 := h.2.2 (106, 43, 138) (by decide)
theorem lr_106_44 {H : zH} (h : zLay H) : zR H 106 44 = some 139 := h.2.2 (106, 44, 139) (by decide)
theorem lr_106_45 {H : zH} (h : zLay H) : zR H 106 45 = some 140 := h.2.2 (106, 45, 140) (by decide)
theorem lr_106_46 {H : zH} (h : zLay H) : zR H 106 46 = some 141 := h.2.2 (106, 46, 141) (by decide)
theorem lr_106_48 {H : zH} (h : zLay H) : zR H 106 48 = some 142 := h.2.2 (106, 48, 142) (by decide)
theorem lr_106_49 {H : zH} (h : zLay H) : zR H 106 49 = some 143 := h.2.2 (106, 49, 143) (by decide)
theorem lr_106_50 {H : zH} (h : zLay H) : zR H 106 50 = some 144 := h.2.2 (106, 50, 144) (by decide)
theorem lr_106_53 {H : zH} (h : zLay H) : zR H 106 53 = some 145 := h.2.2 (106, 53, 145) (by decide)
theorem lr_106_54 {H : zH} (h : zLay H) : zR H 106 54 = some 146 := h.2.2 (106, 54, 146) (by decide)
theorem lr_106_55 {H : zH} (h : zLay H) : zR H 106 55 = some 147 := h.2.2 (106, 55, 147) (by decide)
theorem lr_106_56 {H : zH} (h : zLay H) : zR H 106 56 = some 148 := h.2.2 (106, 56, 148) (by decide)
theorem lr_106_57 {H : zH} (h : zLay H) : zR H 106 57 = some 149 := h.2.2 (106, 57, 149) (by decide)
theorem lr_106_58 {H : zH} (h : zLay H) : zR H 106 58 = some 150 := h.2.2 (106, 58, 150) (by decide)
theorem lr_106_59 {H : zH} (h : zLay H) : zR H 106 59 = some 151 := h.2.2 (106, 59, 151) (by decide)
theorem lr_106_60 {H : zH} (h : zLay H) : zR H 106 60 = some 152 := h.2.2 (106, 60, 152) (by decide)
theorem lr_106_61 {H : zH} (h : zLay H) : zR H 106 61 = some 153 := h.2.2 (106, 61, 153) (by decide)
theorem lr_106_62 {H : zH} (h : zLay H) : zR H 106 62 = some 154 := h.2.2 (106, 62, 154) (by decide)
theorem lr_106_63 {H : zH} (h : zLay H) : zR H 106 63 = some 155 := h.2.2 (106, 63, 155) (by decide)
theorem lr_106_64 {H : zH} (h : zLay H) : zR H 106 64 = some 156 := h.2.2 (106, 64, 156) (by decide)
theorem lr_106_65 {H : zH} (h : zLay H) : zR H 106 65 = some 157 := h.2.2 (106, 65, 157) (by decide)
theorem lr_106_75 {H : zH} (h : zLay H) : zR H 106 75 = some 158 := h.2.2 (106, 75, 158) (by decide)
theorem lr_106_76 {H : zH} (h : zLay H) : zR H 106 76 = some 159 := h.2.2 (106, 76, 159) (by decide)
theorem lr_106_78 {H : zH} (h : zLay H) : zR H 106 78 = some 160 := h.2.2 (106, 78, 160) (by decide)
theorem lr_106_79 {H : zH} (h : zLay H) : zR H 106 79 = some 161 := h.2.2 (106, 79, 161) (by decide)
theorem lr_106_80 {H : zH} (h : zLay H) : zR H 106 80 = some 162 := h.2.2 (106, 80, 162) (by decide)
theorem lr_106_81 {H : zH} (h : zLay H) : zR H 106 81 = some 163 := h.2.2 (106, 81, 163) (by decide)
theorem lr_106_83 {H : zH} (h : zLay H) : zR H 106 83 = some 164 := h.2.2 (106, 83, 164) (by decide)
theorem zLay_wA {H : zH} (h : zLay H) (a j : Nat) (x : Int) : zLay (zwA H a j x) := h
theorem zLay_cp {H : zH} (h : zLay H) (a sp b dp n : Nat) : zLay (zcp H a sp b dp n) := h
theorem zLay_wR {H : zH} (h : zLay H) {a j : Nat} {r : Option Nat} (hf : ∀ q ∈ zFiL, ¬ (q.1 = a ∧ q.2.1 = j)) : zLay (zwR H a j r) := ⟨h.1, h.2.1, fun q hq => by rw [zR_wR, if_neg (hf q hq)]; exact h.2.2 q hq⟩
/-- nothing but some numbers has changed -/
def zmd (S : Nat → Nat → Bool) (H H' : zH) : Prop := zS H' = zS H ∧ H'.2.1 = H.2.1 ∧ (∀ a k, zR H' a k = zR H a k) ∧ ∀ a j, S a j = false → zA H' a j = zA H a j
/-- cells, and single fields -/
def zin (l : List Nat) (f : List (Nat × Nat)) (a j : Nat) : Bool := l.contains a || f.contains (a, j)
theorem zmd_lay {S : Nat → Nat → Bool} {H H' : zH} (h : zmd S H H') (hL : zLay H) : zLay H' := ⟨by rw [h.1]; exact hL.1, by rw [h.2.1]; exact hL.2.1, fun q hq => by rw [h.2.2.1]; exact hL.2.2 q hq⟩
theorem zmd_rf (S : Nat → Nat → Bool) (H : zH) : zmd S H H := ⟨rfl, rfl, fun _ _ => rfl, fun _ _ _ => rfl⟩
theorem zmd_tr {S : Nat → Nat → Bool} {H H' H'' : zH} (h : zmd S H H') (h' : zmd S H' H'') : zmd S H H'' := ⟨h'.1.trans h.1, h'.2.1.trans h.2.1, fun a k => (h'.2.2.1 a k).trans (h.2.2.1 a k), fun a j ha => (h'.2.2.2 a j ha).trans (h.2.2.2 a j ha)⟩
theorem zmd_mono {S T : Nat → Nat → Bool} {H H' : zH} (h : zmd S H H') (hs : ∀ a j, T a j = false → S a j = false) : zmd T H H' := ⟨h.1, h.2.1, h.2.2.1, fun a j ha => h.2.2.2 a j (hs a j ha)⟩
theorem zmd_wA {S : Nat → Nat → Bool} (H : zH) {a j : Nat} {x : Int} (h : S a j = true) : zmd S H (zwA H a j x) := ⟨rfl, rfl, fun _ _ => rfl, fun b k hb => by rw [zA_wA, if_neg (fun q => by rw [q.1, q.2, h] at hb; cases hb)]⟩
theorem zmd_w {S : Nat → Nat → Bool} {H H1 : zH} {a j : Nat} {x : Int} (h : zmd S H H1) (hs : S a j = true) : zmd S H (zwA H1 a j x) := zmd_tr h (zmd_wA H1 hs)
theorem zmd_cp {S : Nat → Nat → Bool} {H H1 : zH} {a sp b dp n : Nat} (h : zmd S H H1) (hs : ∀ j, S b j = true) : zmd S H (zcp H1 a sp b dp n) := zmd_tr h ⟨rfl, rfl, fun _ _ => rfl, fun c k hc => by rw [zA_cp, if_neg (fun q => by rw [q.1, hs] at hc; cases hc)]⟩
theorem zmd_K {S : Nat → Nat → Bool} {H H' : zH} (h : zmd S H H') (a : Nat) : zK H' a = zK H a := by unfold zK; rw [h.2.1]
theorem zmd_N {S : Nat → Nat → Bool} {H H' : zH} (h : zmd S H H') (a : Nat) : zN H' a = zN H a := by unfold zN; rw [h.2.1]
theorem zin_l {l : List Nat} {f : List (Nat × Nat)} {a j : Nat} (h : l.contains a = true) : zin l f a j = true := by unfold zin; rw [h]; rfl
