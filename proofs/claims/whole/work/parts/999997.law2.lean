/-! ===== all invariants at once ===== -/
def iFa (H : zH) : Prop := zA H 106 73 = zA H 1 11 ∧ zA H 106 74 = zA H 1 12
def iFe (H : zH) : Prop := zA H 106 35 = zA H 70 9
def zIV (H : zH) : Prop := zLay H ∧ zBy H ∧ iT H ∧ iC H ∧ iCd H ∧ iF H ∧ iD H ∧ iDs H ∧ iTh H ∧ iOd H ∧ iSp H ∧ iKL H ∧ iMis H ∧ iSh H ∧ iA H ∧ iDy H ∧ iLi H ∧ iNi H ∧ iFa H ∧ iFe H ∧ iLe H ∧ iWe H ∧ iMS H ∧ iMn H ∧ iMk H
def zfr (S T : Nat → Nat → Bool) (H G : zH) : Prop := (∀ a k : Nat, a < 165 → T a k = false → zR G a k = zR H a k) ∧ ∀ a j : Nat, a < 165 → S a j = false → zA G a j = zA H a j
theorem zfr_g {S T : Nat → Nat → Bool} {H G : zH} (h : zmg S T H G) : zfr S T H G := ⟨fun a k _ q => h.2.2.1 a k q, fun a j _ q => h.2.2.2 a j q⟩
theorem zfr_y {S : Nat → Nat → Bool} {H G : zH} (h : yFr S H G) : zfr S (zin [] [(1, 10)]) H G := ⟨fun a k ha q => h.2.2.1 a k ha (fun e => by rw [e.1, e.2] at q; cases q), fun a j ha q => h.2.2.2 a j ha q⟩
theorem tr_iT {S T : Nat → Nat → Bool} {H G : zH} (h : zfr S T H G) (a3 : ∀ j : Nat, S 3 j = false) (a107 : ∀ j : Nat, S 107 j = false) (f2_3 : S 2 3 = false) (f106_1 : S 106 1 = false) (hX : iT H) : iT G := by
  have e3 : ∀ j : Nat, zA G 3 j = zA H 3 j := fun j => h.2 3 j (by omega) (a3 j)
  have e107 : ∀ j : Nat, zA G 107 j = zA H 107 j := fun j => h.2 107 j (by omega) (a107 j)
  have g2_3 : zA G 2 3 = zA H 2 3 := h.2 2 3 (by omega) f2_3
  have g106_1 : zA G 106 1 = zA H 106 1 := h.2 106 1 (by omega) f106_1
  unfold iT at hX ⊢
  simp only [e3, e107, g2_3, g106_1]
  exact hX
theorem tr_iC {S T : Nat → Nat → Bool} {H G : zH} (h : zfr S T H G) (a8 : ∀ j : Nat, S 8 j = false) (a109 : ∀ j : Nat, S 109 j = false) (a7 : ∀ j : Nat, S 7 j = false) (a108 : ∀ j : Nat, S 108 j = false)  (hX : iC H) : iC G := by
  have e8 : ∀ j : Nat, zA G 8 j = zA H 8 j := fun j => h.2 8 j (by omega) (a8 j)
  have e109 : ∀ j : Nat, zA G 109 j = zA H 109 j := fun j => h.2 109 j (by omega) (a109 j)
  have e7 : ∀ j : Nat, zA G 7 j = zA H 7 j := fun j => h.2 7 j (by omega) (a7 j)
  have e108 : ∀ j : Nat, zA G 108 j = zA H 108 j := fun j => h.2 108 j (by omega) (a108 j)
  unfold iC at hX ⊢
  simp only [e8, e109, e7, e108]
  exact hX
theorem tr_iCd {S T : Nat → Nat → Bool} {H G : zH} (h : zfr S T H G) (a8 : ∀ j : Nat, S 8 j = false) (a7 : ∀ j : Nat, S 7 j = false)  (hX : iCd H) : iCd G := by
  have e8 : ∀ j : Nat, zA G 8 j = zA H 8 j := fun j => h.2 8 j (by omega) (a8 j)
  have e7 : ∀ j : Nat, zA G 7 j = zA H 7 j := fun j => h.2 7 j (by omega) (a7 j)
  unfold iCd at hX ⊢
  simp only [e8, e7]
  exact hX
theorem tr_iF {S T : Nat → Nat → Bool} {H G : zH} (h : zfr S T H G) (a111 : ∀ j : Nat, S 111 j = false) (a9 : ∀ j : Nat, S 9 j = false) (a112 : ∀ j : Nat, S 112 j = false) (f6_3 : S 6 3 = false) (hX : iF H) : iF G := by
  have e111 : ∀ j : Nat, zA G 111 j = zA H 111 j := fun j => h.2 111 j (by omega) (a111 j)
  have e9 : ∀ j : Nat, zA G 9 j = zA H 9 j := fun j => h.2 9 j (by omega) (a9 j)
  have e112 : ∀ j : Nat, zA G 112 j = zA H 112 j := fun j => h.2 112 j (by omega) (a112 j)
  have g6_3 : zA G 6 3 = zA H 6 3 := h.2 6 3 (by omega) f6_3
  unfold iF at hX ⊢
  simp only [e111, e9, e112, g6_3]
  exact hX
theorem tr_iD {S T : Nat → Nat → Bool} {H G : zH} (h : zfr S T H G) (a110 : ∀ j : Nat, S 110 j = false) (a12 : ∀ j : Nat, S 12 j = false)  (hX : iD H) : iD G := by
  have e110 : ∀ j : Nat, zA G 110 j = zA H 110 j := fun j => h.2 110 j (by omega) (a110 j)
  have e12 : ∀ j : Nat, zA G 12 j = zA H 12 j := fun j => h.2 12 j (by omega) (a12 j)
  unfold iD at hX ⊢
  simp only [e110, e12]
  exact hX
theorem tr_iDs {S T : Nat → Nat → Bool} {H G : zH} (h : zfr S T H G) (a12 : ∀ j : Nat, S 12 j = false)  (hX : iDs H) : iDs G := by
  have e12 : ∀ j : Nat, zA G 12 j = zA H 12 j := fun j => h.2 12 j (by omega) (a12 j)
  unfold iDs at hX ⊢
  simp only [e12]
  exact hX
theorem tr_iTh {S T : Nat → Nat → Bool} {H G : zH} (h : zfr S T H G) (a22 : ∀ j : Nat, S 22 j = false) (a115 : ∀ j : Nat, S 115 j = false) (a23 : ∀ j : Nat, S 23 j = false) (a117 : ∀ j : Nat, S 117 j = false) (a24 : ∀ j : Nat, S 24 j = false) (a116 : ∀ j : Nat, S 116 j = false) (f21_3 : S 21 3 = false) (f106_11 : S 106 11 = false) (hX : iTh H) : iTh G := by
  have e22 : ∀ j : Nat, zA G 22 j = zA H 22 j := fun j => h.2 22 j (by omega) (a22 j)
  have e115 : ∀ j : Nat, zA G 115 j = zA H 115 j := fun j => h.2 115 j (by omega) (a115 j)
  have e23 : ∀ j : Nat, zA G 23 j = zA H 23 j := fun j => h.2 23 j (by omega) (a23 j)
  have e117 : ∀ j : Nat, zA G 117 j = zA H 117 j := fun j => h.2 117 j (by omega) (a117 j)
  have e24 : ∀ j : Nat, zA G 24 j = zA H 24 j := fun j => h.2 24 j (by omega) (a24 j)
  have e116 : ∀ j : Nat, zA G 116 j = zA H 116 j := fun j => h.2 116 j (by omega) (a116 j)
  have g21_3 : zA G 21 3 = zA H 21 3 := h.2 21 3 (by omega) f21_3
  have g106_11 : zA G 106 11 = zA H 106 11 := h.2 106 11 (by omega) f106_11
  unfold iTh at hX ⊢
  simp only [e22, e115, e23, e117, e24, e116, g21_3, g106_11]
  exact hX
theorem tr_iOd {S T : Nat → Nat → Bool} {H G : zH} (h : zfr S T H G) (a26 : ∀ j : Nat, S 26 j = false) (a139 : ∀ j : Nat, S 139 j = false) (a27 : ∀ j : Nat, S 27 j = false) (a140 : ∀ j : Nat, S 140 j = false)  (hX : iOd H) : iOd G := by
  have e26 : ∀ j : Nat, zA G 26 j = zA H 26 j := fun j => h.2 26 j (by omega) (a26 j)
  have e139 : ∀ j : Nat, zA G 139 j = zA H 139 j := fun j => h.2 139 j (by omega) (a139 j)
  have e27 : ∀ j : Nat, zA G 27 j = zA H 27 j := fun j => h.2 27 j (by omega) (a27 j)
  have e140 : ∀ j : Nat, zA G 140 j = zA H 140 j := fun j => h.2 140 j (by omega) (a140 j)
  unfold iOd at hX ⊢
  simp only [e26, e139, e27, e140]
  exact hX
theorem tr_iSp {S T : Nat → Nat → Bool} {H G : zH} (h : zfr S T H G) (a135 : ∀ j : Nat, S 135 j = false) (a16 : ∀ j : Nat, S 16 j = false) (f11_6 : S 11 6 = false) (f106_39 : S 106 39 = false) (hX : iSp H) : iSp G := by
  have e135 : ∀ j : Nat, zA G 135 j = zA H 135 j := fun j => h.2 135 j (by omega) (a135 j)
  have e16 : ∀ j : Nat, zA G 16 j = zA H 16 j := fun j => h.2 16 j (by omega) (a16 j)
  have g11_6 : zA G 11 6 = zA H 11 6 := h.2 11 6 (by omega) f11_6
  have g106_39 : zA G 106 39 = zA H 106 39 := h.2 106 39 (by omega) f106_39
  unfold iSp at hX ⊢
  simp only [e135, e16, g11_6, g106_39]
  exact hX
theorem tr_iKL {S T : Nat → Nat → Bool} {H G : zH} (h : zfr S T H G) (a124 : ∀ j : Nat, S 124 j = false) (a37 : ∀ j : Nat, S 37 j = false) (a128 : ∀ j : Nat, S 128 j = false) (a39 : ∀ j : Nat, S 39 j = false) (f29_11 : S 29 11 = false) (f29_14 : S 29 14 = false) (hX : iKL H) : iKL G := by
  have e124 : ∀ j : Nat, zA G 124 j = zA H 124 j := fun j => h.2 124 j (by omega) (a124 j)
  have e37 : ∀ j : Nat, zA G 37 j = zA H 37 j := fun j => h.2 37 j (by omega) (a37 j)
  have e128 : ∀ j : Nat, zA G 128 j = zA H 128 j := fun j => h.2 128 j (by omega) (a128 j)
  have e39 : ∀ j : Nat, zA G 39 j = zA H 39 j := fun j => h.2 39 j (by omega) (a39 j)
  have g29_11 : zA G 29 11 = zA H 29 11 := h.2 29 11 (by omega) f29_11
  have g29_14 : zA G 29 14 = zA H 29 14 := h.2 29 14 (by omega) f29_14
  unfold iKL at hX ⊢
  simp only [e124, e37, e128, e39, g29_11, g29_14]
  exact hX
theorem tr_iMis {S T : Nat → Nat → Bool} {H G : zH} (h : zfr S T H G)  (f70_3 : S 70 3 = false) (f106_28 : S 106 28 = false) (hX : iMis H) : iMis G := by
  have g70_3 : zA G 70 3 = zA H 70 3 := h.2 70 3 (by omega) f70_3
  have g106_28 : zA G 106 28 = zA H 106 28 := h.2 106 28 (by omega) f106_28
  unfold iMis at hX ⊢
  simp only [g70_3, g106_28]
  exact hX
theorem tr_iSh {S T : Nat → Nat → Bool} {H G : zH} (h : zfr S T H G) (a148 : ∀ j : Nat, S 148 j = false) (a88 : ∀ j : Nat, S 88 j = false) (a147 : ∀ j : Nat, S 147 j = false) (a89 : ∀ j : Nat, S 89 j = false) (a90 : ∀ j : Nat, S 90 j = false) (a145 : ∀ j : Nat, S 145 j = false) (a146 : ∀ j : Nat, S 146 j = false) (a91 : ∀ j : Nat, S 91 j = false) (f87_2 : S 87 2 = false) (f106_51 : S 106 51 = false) (f87_5 : S 87 5 = false) (f106_52 : S 106 52 = false) (hX : iSh H) : iSh G := by
  have e148 : ∀ j : Nat, zA G 148 j = zA H 148 j := fun j => h.2 148 j (by omega) (a148 j)
  have e88 : ∀ j : Nat, zA G 88 j = zA H 88 j := fun j => h.2 88 j (by omega) (a88 j)
  have e147 : ∀ j : Nat, zA G 147 j = zA H 147 j := fun j => h.2 147 j (by omega) (a147 j)
  have e89 : ∀ j : Nat, zA G 89 j = zA H 89 j := fun j => h.2 89 j (by omega) (a89 j)
  have e90 : ∀ j : Nat, zA G 90 j = zA H 90 j := fun j => h.2 90 j (by omega) (a90 j)
  have e145 : ∀ j : Nat, zA G 145 j = zA H 145 j := fun j => h.2 145 j (by omega) (a145 j)
  have e146 : ∀ j : Nat, zA G 146 j = zA H 146 j := fun j => h.2 146 j (by omega) (a146 j)
  have e91 : ∀ j : Nat, zA G 91 j = zA H 91 j := fun j => h.2 91 j (by omega) (a91 j)
  have g87_2 : zA G 87 2 = zA H 87 2 := h.2 87 2 (by omega) f87_2
  have g106_51 : zA G 106 51 = zA H 106 51 := h.2 106 51 (by omega) f106_51
  have g87_5 : zA G 87 5 = zA H 87 5 := h.2 87 5 (by omega) f87_5
  have g106_52 : zA G 106 52 = zA H 106 52 := h.2 106 52 (by omega) f106_52
  unfold iSh at hX ⊢
  simp only [e148, e88, e147, e89, e90, e145, e146, e91, g87_2, g106_51, g87_5, g106_52]
  exact hX
theorem tr_iA {S T : Nat → Nat → Bool} {H G : zH} (h : zfr S T H G) (a10 : ∀ j : Nat, S 10 j = false) (a113 : ∀ j : Nat, S 113 j = false) (f6_5 : S 6 5 = false) (f106_9 : S 106 9 = false) (f106_10 : S 106 10 = false) (hX : iA H) : iA G := by
  have e10 : ∀ j : Nat, zA G 10 j = zA H 10 j := fun j => h.2 10 j (by omega) (a10 j)
  have e113 : ∀ j : Nat, zA G 113 j = zA H 113 j := fun j => h.2 113 j (by omega) (a113 j)
  have g6_5 : zA G 6 5 = zA H 6 5 := h.2 6 5 (by omega) f6_5
  have g106_9 : zA G 106 9 = zA H 106 9 := h.2 106 9 (by omega) f106_9
  have g106_10 : zA G 106 10 = zA H 106 10 := h.2 106 10 (by omega) f106_10
  unfold iA at hX ⊢
  simp only [e10, e113, g6_5, g106_9, g106_10]
  exact hX
theorem tr_iDy {S T : Nat → Nat → Bool} {H G : zH} (h : zfr S T H G) (a142 : ∀ j : Nat, S 142 j = false) (a13 : ∀ j : Nat, S 13 j = false) (a143 : ∀ j : Nat, S 143 j = false) (a14 : ∀ j : Nat, S 14 j = false) (a15 : ∀ j : Nat, S 15 j = false) (a144 : ∀ j : Nat, S 144 j = false) (f11_4 : S 11 4 = false) (f106_47 : S 106 47 = false) (hX : iDy H) : iDy G := by
  have e142 : ∀ j : Nat, zA G 142 j = zA H 142 j := fun j => h.2 142 j (by omega) (a142 j)
  have e13 : ∀ j : Nat, zA G 13 j = zA H 13 j := fun j => h.2 13 j (by omega) (a13 j)
  have e143 : ∀ j : Nat, zA G 143 j = zA H 143 j := fun j => h.2 143 j (by omega) (a143 j)
  have e14 : ∀ j : Nat, zA G 14 j = zA H 14 j := fun j => h.2 14 j (by omega) (a14 j)
  have e15 : ∀ j : Nat, zA G 15 j = zA H 15 j := fun j => h.2 15 j (by omega) (a15 j)
  have e144 : ∀ j : Nat, zA G 144 j = zA H 144 j := fun j => h.2 144 j (by omega) (a144 j)
  have g11_4 : zA G 11 4 = zA H 11 4 := h.2 11 4 (by omega) f11_4
  have g106_47 : zA G 106 47 = zA H 106 47 := h.2 106 47 (by omega) f106_47
  unfold iDy at hX ⊢
  simp only [e142, e13, e143, e14, e15, e144, g11_4, g106_47]
  exact hX
theorem tr_iLi {S T : Nat → Nat → Bool} {H G : zH} (h : zfr S T H G) (a18 : ∀ j : Nat, S 18 j = false) (a137 : ∀ j : Nat, S 137 j = false) (a17 : ∀ j : Nat, S 17 j = false) (a136 : ∀ j : Nat, S 136 j = false) (f11_9 : S 11 9 = false) (f106_40 : S 106 40 = false) (hX : iLi H) : iLi G := by
  have e18 : ∀ j : Nat, zA G 18 j = zA H 18 j := fun j => h.2 18 j (by omega) (a18 j)
  have e137 : ∀ j : Nat, zA G 137 j = zA H 137 j := fun j => h.2 137 j (by omega) (a137 j)
  have e17 : ∀ j : Nat, zA G 17 j = zA H 17 j := fun j => h.2 17 j (by omega) (a17 j)
  have e136 : ∀ j : Nat, zA G 136 j = zA H 136 j := fun j => h.2 136 j (by omega) (a136 j)
  have g11_9 : zA G 11 9 = zA H 11 9 := h.2 11 9 (by omega) f11_9
  have g106_40 : zA G 106 40 = zA H 106 40 := h.2 106 40 (by omega) f106_40
  unfold iLi at hX ⊢
  simp only [e18, e137, e17, e136, g11_9, g106_40]
  exact hX
theorem tr_iNi {S T : Nat → Nat → Bool} {H G : zH} (h : zfr S T H G) (a71 : ∀ j : Nat, S 71 j = false) (a129 : ∀ j : Nat, S 129 j = false) (a72 : ∀ j : Nat, S 72 j = false) (f70_2 : S 70 2 = false) (f106_27 : S 106 27 = false) (hX : iNi H) : iNi G := by
  have e71 : ∀ j : Nat, zA G 71 j = zA H 71 j := fun j => h.2 71 j (by omega) (a71 j)
  have e129 : ∀ j : Nat, zA G 129 j = zA H 129 j := fun j => h.2 129 j (by omega) (a129 j)
  have e72 : ∀ j : Nat, zA G 72 j = zA H 72 j := fun j => h.2 72 j (by omega) (a72 j)
  have g70_2 : zA G 70 2 = zA H 70 2 := h.2 70 2 (by omega) f70_2
  have g106_27 : zA G 106 27 = zA H 106 27 := h.2 106 27 (by omega) f106_27
  unfold iNi at hX ⊢
  simp only [e71, e129, e72, g70_2, g106_27]
  exact hX
theorem tr_iFa {S T : Nat → Nat → Bool} {H G : zH} (h : zfr S T H G)  (f106_73 : S 106 73 = false) (f1_11 : S 1 11 = false) (f106_74 : S 106 74 = false) (f1_12 : S 1 12 = false) (hX : iFa H) : iFa G := by
  have g106_73 : zA G 106 73 = zA H 106 73 := h.2 106 73 (by omega) f106_73
  have g1_11 : zA G 1 11 = zA H 1 11 := h.2 1 11 (by omega) f1_11
  have g106_74 : zA G 106 74 = zA H 106 74 := h.2 106 74 (by omega) f106_74
  have g1_12 : zA G 1 12 = zA H 1 12 := h.2 1 12 (by omega) f1_12
  unfold iFa at hX ⊢
  simp only [g106_73, g1_11, g106_74, g1_12]
  exact hX
theorem tr_iFe {S T : Nat → Nat → Bool} {H G : zH} (h : zfr S T H G)  (f106_35 : S 106 35 = false) (f70_9 : S 70 9 = false) (hX : iFe H) : iFe G := by
  have g106_35 : zA G 106 35 = zA H 106 35 := h.2 106 35 (by omega) f106_35
  have g70_9 : zA G 70 9 = zA H 70 9 := h.2 70 9 (by omega) f70_9
  unfold iFe at hX ⊢
  simp only [g106_35, g70_9]
  exact hX
theorem tr_iWe {S T : Nat → Nat → Bool} {H G : zH} (h : zfr S T H G) (a33 : ∀ j : Nat, S 33 j = false)  (hX : iWe H) : iWe G := by
  have e33 : ∀ j : Nat, zA G 33 j = zA H 33 j := fun j => h.2 33 j (by omega) (a33 j)
  unfold iWe at hX ⊢
  simp only [e33]
  exact hX
theorem tr_iMS {S T : Nat → Nat → Bool} {H G : zH} (h : zfr S T H G) (a119 : ∀ j : Nat, S 119 j = false) (a120 : ∀ j : Nat, S 120 j = false) (f : S 106 18 = false) (hX : iMS H) : iMS G := iMS_A (h.2 106 18 (by omega) f) (funext (fun j => h.2 119 j (by omega) (a119 j))) (funext (fun j => h.2 120 j (by omega) (a120 j))) hX
theorem tr_iLe {S T : Nat → Nat → Bool} {H G : zH} (h : zfr S T H G) (a32 : ∀ j : Nat, S 32 j = false) (a65 : ∀ j : Nat, S 65 j = false) (a66 : ∀ j : Nat, S 66 j = false) (a68 : ∀ j : Nat, S 68 j = false) (a69 : ∀ j : Nat, S 69 j = false) (f : S 29 5 = false) (t2 : T 29 2 = false) (t3 : T 29 3 = false) (t30 : ∀ k : Nat, T 30 k = false) (t31 : ∀ k : Nat, T 31 k = false) (hX : iLe H) : iLe G := by
  obtain ⟨e, ⟨l1, l2, l3, l4⟩, h2, h3⟩ := hX
  refine ⟨e, ⟨l1, by rw [h.1 29 2 (by omega) t2]; exact l2, by rw [h.1 29 3 (by omega) t3]; exact l3, fun k hk => ?_⟩, fun i hi => by rw [h.2 32 i (by omega) (a32 i)]; exact h2 i hi, ?_⟩
  · rw [h.1 30 k (by omega) (t30 k), h.1 31 k (by omega) (t31 k)]; exact l4 k hk
  · rw [h.2 29 5 (by omega) f]
    rcases h3 with q | ⟨r, q1, S9, K9, ⟨q2, q3, q4⟩, q5⟩
    · exact Or.inl q
    · refine Or.inr ⟨r, q1, S9, K9, ⟨fun i hi => ?_, fun j hj => ?_, q4⟩, q5⟩
      · have e01 : e = 0 ∨ e = 1 := by omega
        rcases e01 with e0 | e0
        · subst e0; rw [h.2 65 i (by omega) (a65 i)]; exact q2 i hi
        · subst e0; rw [h.2 68 i (by omega) (a68 i)]; exact q2 i hi
      · have e01 : e = 0 ∨ e = 1 := by omega
        rcases e01 with e0 | e0
        · subst e0; rw [h.2 66 j (by omega) (a66 j)]; exact q3 j hj
        · subst e0; rw [h.2 69 j (by omega) (a69 j)]; exact q3 j hj
theorem tr_iMn {S T : Nat → Nat → Bool} {H G : zH} (h : zfr S T H G) (hA : ∀ a j : Nat, (94 ≤ a ∧ a ≤ 105) ∨ (149 ≤ a ∧ a ≤ 157) ∨ a = 82 ∨ (a = 78 ∧ j = 4) → S a j = false) (t8 : T 1 8 = false) (t9 : T 1 9 = false) (hM : iMn H) : iMn G := by
  obtain ⟨K, nn, t, w, tk, rs, ru, hk, hg, hc⟩ := hM
  have hK : K = 94 ∨ K = 100 := by
    rcases hk with h | h
    · exact Or.inl h.1
    · exact Or.inr h.1
  refine ⟨K, nn, t, w, tk, rs, ru, by rw [h.1 1 8 (by omega) t8, h.1 1 9 (by omega) t9]; exact hk, iMg_c (fun a j q => h.2 a j (by clear hk hg hc; omega) (hA a j (by clear hk hg hc; omega))) hg, ?_⟩
  unfold zCac at hc ⊢
  rw [h.2 78 4 (by omega) (hA 78 4 (by omega))]
  rcases hc with q | ⟨q1, q2⟩
  · exact Or.inl q
  · exact Or.inr ⟨q1, fun j hj => by rw [h.2 82 j (by omega) (hA 82 j (by omega))]; exact q2 j hj⟩
theorem tr_iMk {S T : Nat → Nat → Bool} {H G : zH} (h : zmg S T H G) (t1 : T 1 10 = false) (t2 : ∀ k : Nat, T 165 k = false) (f1 : S 106 84 = false) (f2 : S 165 6 = false) (a164 : ∀ j : Nat, S 164 j = false) (a170 : ∀ j : Nat, S 170 j = false) (hX : iMk H) : iMk G := by
  rcases hX with ⟨m1, m2, m3⟩ | ⟨m1, m2, m3, s, m4, m5, m6, m7⟩
  · exact Or.inl ⟨by rw [h.2.2.1 1 10 t1]; exact m1, by rw [h.1]; exact m2, by rw [h.2.2.2 106 84 f1]; exact m3⟩
  · refine Or.inr ⟨by rw [h.2.2.1 1 10 t1]; exact m1, by rw [h.1]; exact m2, ?_, s, m4, by rw [h.2.2.2 165 6 f2]; exact m5, by rw [h.2.2.2 106 84 f1]; exact m6, fun j hj => by rw [h.2.2.2 170 j (a170 j), h.2.2.2 164 j (a164 j)]; exact m7 j hj⟩
    have e1 : ∀ a, zK G a = zK H a := fun a => by unfold zK; rw [h.2.1]
    have e2 : ∀ a, zN G a = zN H a := fun a => by unfold zN; rw [h.2.1]
    have e3 : ∀ k, zR G 165 k = zR H 165 k := fun k => h.2.2.1 165 k (t2 k)
    unfold yMk at m3 ⊢
    simp only [e1, e2, e3]
    exact m3
def zF5 : Nat → Nat → Int := zfu zF4 106 74 (-1)
theorem zby_H0 : zBy zH0 := fun a j => ⟨fun _ => by show -128 ≤ (0 : Int) ∧ (0 : Int) ≤ 127; omega, fun _ => by show 0 ≤ (0 : Int) ∧ (0 : Int) ≤ 1; omega⟩
theorem zbit255 : ∀ k : Nat, k < 8 → zbit 255 k = 1
  | 0, _ => by decide
  | 1, _ => by decide
  | 2, _ => by decide
  | 3, _ => by decide
  | 4, _ => by decide
  | 5, _ => by decide
  | 6, _ => by decide
  | 7, _ => by decide
  | k + 8, h => by omega
set_option maxRecDepth 100000 in
theorem zIV_0 {F' : Nat → Nat → Int} {G0 G : zH} (hB : zBy G) (hc : zCN 165 (zLm zLs_10) (zfu F' 106 74 (-1)) G0) (hF : ∀ a j : Nat, ¬ (40 ≤ a ∧ a ≤ 69) → F' a j = zF4 a j) (hm : zmd (zin [110, 111, 112, 124, 128] []) G0 G) (h1 : ∀ k : Nat, k < 8 → zA G 110 k = (k : Nat) ∧ zA G 111 k = 1) (h2 : ∀ c : Nat, c < 64 → zA G 112 c = 1) (h3 : ∀ k : Nat, k < 7 → zA G 124 k = -1 ∧ zA G 128 k = -1) : zIV G := by
  have hL := zmd_lay hm (zCN_lay hc)
  have hA : ∀ a j : Nat, ¬ (40 ≤ a ∧ a ≤ 69) → zin [110, 111, 112, 124, 128] [] a j = false → zA G a j = zF5 a j := fun a j q1 q2 => by
    rw [hm.2.2.2 a j q2, hc.2.2.2.1 a j]
    show (if a = 106 ∧ j = 74 then (-1 : Int) else F' a j) = (if a = 106 ∧ j = 74 then (-1 : Int) else zF4 a j)
    rw [hF a j q1]
  have hR : ∀ q : Nat × Nat × Nat, q ∈ zLm zLs_10 → zR G q.1 q.2.1 = some q.2.2 := fun q hq => by rw [hm.2.2.1]; exact (hc.2.2.1 q hq).2
  have z : ∀ a j : Nat, ¬ (40 ≤ a ∧ a ≤ 69) → zin [110, 111, 112, 124, 128] [] a j = false → zF5 a j = 0 → zA G a j = 0 := fun a j q1 q2 q3 => by rw [hA a j q1 q2]; exact q3
  have e9 : ∀ c : Nat, c < 8 → zA G 9 c = 255 := fun c hc => by
    rw [hA 9 c (by omega) rfl]
    show (if 9 = 9 ∧ 0 ≤ c ∧ c < 0 + 8 then (255 : Int) else _) = 255
    rw [if_pos (by omega)]
  have e12 : ∀ c : Nat, c < 8 → zA G 12 c = (c : Nat) := fun c hc => by
    rw [hA 12 c (by omega) rfl]
    show (if 12 = 12 ∧ 0 ≤ c ∧ c < 0 + 8 then (((c - 0 : Nat)) : Int) else _) = _
    rw [if_pos (by omega), Nat.sub_zero]
  have e99 : ∀ c : Nat, c < 8 → zA G 99 c = -1 := fun c hc => by
    rw [hA 99 c (by omega) rfl]
    show (if 99 = 99 ∧ 0 ≤ c ∧ c < 0 + 8 then (-1 : Int) else _) = -1
    rw [if_pos (by omega)]
  have e63 : zA G 6 3 = 255 := by rw [hA 6 3 (by omega) rfl]; rfl
  have e65 : zA G 6 5 = -1 := by rw [hA 6 5 (by omega) rfl]; rfl
  have e295 : zA G 29 5 = -1 := by rw [hA 29 5 (by omega) rfl]; rfl
  have e112 : zA G 1 12 = -1 := by rw [hA 1 12 (by omega) rfl]; rfl
  have e74 : zA G 106 74 = -1 := by rw [hA 106 74 (by omega) rfl]; rfl
  have y : ∀ a j : Nat, (¬ (40 ≤ a ∧ a ≤ 69) ∧ zin [110, 111, 112, 124, 128] [] a j = false ∧ zF5 a j = 0) → zA G a j = 0 := fun a j q => z a j q.1 q.2.1 q.2.2
  refine ⟨hL, hB, ?_, ?_, ?_, ?_, ?_, ?_, ?_, ?_, ?_, ?_, ?_, ?_, ?_, ?_, ?_, ?_, ?_, ?_, ?_, ?_, ?_, ?_, ?_⟩
  · exact iT_0 (z 2 3 (by omega) rfl rfl) (z 106 1 (by omega) rfl rfl)
  · intro k hk
    have e8 : zA G 8 k = 0 := z 8 k (by omega) rfl rfl
    have e109 : zA G 109 k = 0 := z 109 k (by omega) rfl rfl
    refine ⟨by omega, fun i hi => by omega⟩
  · intro k k' hk hk' hne h0
    have e8 : zA G 8 k = 0 := z 8 k (by omega) rfl rfl
    omega
  · refine ⟨⟨by omega, fun k hk => ?_⟩, fun c hc => ⟨by rw [e9 c hc]; omega, fun k hk => ?_⟩⟩
    · rw [(h1 k hk).2, e63, zbit255 k hk]
    · rw [h2 _ (by omega), e9 c hc, zbit255 k hk]
  · intro k hk
    rw [(h1 k hk).1, e12 k hk]
    omega
  · intro k hk
    exact ⟨k, hk, e12 k hk⟩
  · refine ⟨0, by omega, z 21 3 (by omega) rfl rfl, z 106 11 (by omega) rfl rfl, fun t ht => by omega, fun t ht => ?_, fun t ht => by omega⟩
    have e23 : zA G 23 t = 0 := z 23 t (by omega) rfl rfl
    exact ⟨by omega, fun _ => e23, fun q => by omega⟩
  · refine ⟨fun k hk => ?_, fun j hj => ?_, fun k hk => z 27 _ (by omega) rfl rfl⟩
    · have e1 : zA G 26 k = 0 := z 26 k (by omega) rfl rfl
      have e2 : zA G 139 k = 0 := z 139 k (by omega) rfl rfl
      omega
    · have e1 : zA G 27 j = 0 := z 27 j (by omega) rfl rfl
      have e2 : zA G 140 j = 0 := z 140 j (by omega) rfl rfl
      omega
  · have e1 : zA G 11 6 = 0 := z 11 6 (by omega) rfl rfl
    have e2 : zA G 106 39 = 0 := z 106 39 (by omega) rfl rfl
    exact ⟨by omega, by omega, fun i hi => by omega⟩
  · have e1 : zA G 29 11 = 0 := z 29 11 (by omega) rfl rfl
    have e2 : zA G 29 14 = 0 := z 29 14 (by omega) rfl rfl
    refine ⟨by omega, by omega, fun t ht => ?_⟩
    rw [if_neg (by omega), if_neg (by omega)]
    exact h3 t ht
  · have e1 : zA G 70 3 = 0 := z 70 3 (by omega) rfl rfl
    have e2 : zA G 106 28 = 0 := z 106 28 (by omega) rfl rfl
    exact ⟨by omega, by omega⟩
  · exact ⟨0, 0, by omega, by omega, ⟨z 87 2 (by omega) rfl rfl, z 106 51 (by omega) rfl rfl⟩, ⟨z 87 5 (by omega) rfl rfl, z 106 52 (by omega) rfl rfl⟩, fun i hi => by omega, fun s hs => by omega, fun i j _ hj => by omega⟩
  · have e1 : zA G 106 9 = 0 := z 106 9 (by omega) rfl rfl
    have e2 : zA G 106 10 = 0 := z 106 10 (by omega) rfl rfl
    refine ⟨by omega, ?_, ?_, fun i hi => by omega⟩
    · rw [if_pos (by omega)]; exact e1
    · rw [if_pos (by omega)]; exact e2
  · exact ⟨0, by omega, z 11 4 (by omega) rfl rfl, z 106 47 (by omega) rfl rfl, fun i hi => by omega⟩
  · exact ⟨0, by omega, z 11 9 (by omega) rfl rfl, z 106 40 (by omega) rfl rfl, fun i hi => by omega⟩
  · have e71 : ∀ j, zA G 71 j = 0 := fun j => z 71 j (by omega) rfl rfl
    refine ⟨0, by omega, z 70 2 (by omega) rfl rfl, z 106 27 (by omega) rfl rfl, fun j hj => ?_, fun k hk => ?_⟩
    · have e2 : zA G 129 j = 0 := z 129 j (by omega) rfl rfl
      rw [e71 j, e2]
      omega
    · have e2 : zA G 72 k = 0 := z 72 k (by omega) rfl rfl
      rw [e2]
      simp only [e71]
      exact ⟨by omega, rfl⟩
  · refine ⟨?_, by rw [e74, e112]⟩
    rw [z 106 73 (by omega) rfl rfl, z 1 11 (by omega) rfl rfl]
  · show zA G 106 35 = zA G 70 9
    rw [z 106 35 (by omega) rfl rfl, z 70 9 (by omega) rfl rfl]
  · refine ⟨0, ⟨by omega, hR (29, 2, 64) (by decide), hR (29, 3, 67) (by decide), fun k hk => ⟨Nat.zero_le _, ?_⟩⟩, fun i hi => z 32 i (by omega) rfl rfl, Or.inl e295⟩
    match k, hk with
    | 0, _ => exact ⟨hR (30, 0, 40) (by decide), hR (31, 0, 43) (by decide)⟩
    | 1, _ => exact ⟨hR (30, 1, 46) (by decide), hR (31, 1, 49) (by decide)⟩
    | 2, _ => exact ⟨hR (30, 2, 52) (by decide), hR (31, 2, 55) (by decide)⟩
    | 3, _ => exact ⟨hR (30, 3, 58) (by decide), hR (31, 3, 61) (by decide)⟩
    | k + 4, hk => omega
  · intro t ht
    have e1 : zA G 33 t = 0 := z 33 t (by omega) rfl rfl
    omega
  · exact Or.inl (z 106 18 (by omega) rfl rfl)
  · refine ⟨94, 0, fun _ => 0, (0, fun _ => (0, 0)), [], fun _ => -1, fun _ => [], Or.inl ⟨rfl, hR (1, 8, 94) (by decide), hR (1, 9, 100) (by decide)⟩, ⟨by omega, fun j hj => by omega, z 94 4 (by omega) rfl rfl, fun v hv => absurd hv (Nat.not_lt_zero _), z 94 6 (by omega) rfl rfl, fun i hi => absurd hi (Nat.not_lt_zero _), e99, Nat.zero_le _, Nat.zero_le _, fun v hv => absurd hv (Nat.not_lt_zero _), fun v hv => absurd hv (Nat.not_lt_zero _), fun k hk => (show -1 ≤ (-1 : Int) ∧ (-1 : Int) ≤ 400 by omega), fun k hk => ?_, fun k hk h0 => absurd (show (0 : Int) ≤ -1 from h0) (by omega), fun j hj => by omega⟩, Or.inl (z 78 4 (by omega) rfl rfl)⟩
    show zA G 157 k = if 0 ≤ (-1 : Int) then 1 else 0
    rw [if_neg (by omega)]
    exact z 157 k (by omega) rfl rfl
  · exact Or.inl ⟨by rw [hm.2.2.1]; exact hc.2.2.2.2.2, by rw [hm.1]; exact hc.1, z 106 84 (by omega) rfl rfl⟩
