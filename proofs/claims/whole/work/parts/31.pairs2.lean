/-! ===== things, odds ===== -/
def iTh (H : zH) : Prop := ∃ n : Nat, n ≤ 40 ∧ zA H 21 3 = n ∧ zA H 106 11 = n ∧ (∀ t : Nat, t < n → (1 ≤ zA H 22 t ∧ zA H 22 t ≤ 9999) ∧ zA H 115 t = zA H 22 t) ∧ (∀ t : Nat, t < 40 → (0 ≤ zA H 23 t ∧ zA H 23 t ≤ 6) ∧ (n ≤ t → zA H 23 t = 0) ∧ (t < n → zA H 117 t = zA H 23 t)) ∧ (∀ t : Nat, t < n → ∀ i : Nat, (i : Int) < zA H 23 t → (0 ≤ zA H 24 (6 * t + i) ∧ zA H 24 (6 * t + i) ≤ 7) ∧ zA H 116 (6 * t + i) = zA H 24 (6 * t + i))
def iOd (H : zH) : Prop := (∀ k : Nat, k < 8 → (0 ≤ zA H 26 k ∧ zA H 26 k ≤ 30) ∧ zA H 139 k = zA H 26 k) ∧ (∀ j : Nat, j < 64 → (0 ≤ zA H 27 j ∧ zA H 27 j ≤ 5) ∧ zA H 140 j = zA H 27 j) ∧ ∀ k : Nat, k < 8 → zA H 27 (9 * k) = 0
theorem zp_thing {xs : Nat → Int} {L d : Nat} {H : zH} {x : Int} (hd : 2 ≤ d) (hL : zLay H) (hT : iTh H) : zPair xs L d 41 214 [zi x] H (fun H2 => zmd (zin [22, 115, 117] [(21, 3), (106, 11)]) H H2 ∧ iTh H2) := by
  obtain ⟨n, hn, h1, h2, h3, h4, h5⟩ := id hT
  refine zc_thing (by omega) hL h1 hn (fun q => ?_) (fun q1 q2 q3 => ?_) (fun q1 q2 q3 => ?_)
  · exact zc_mthing hd hL h2 hn (fun _ => ⟨rfl, zmd_rf _ _, hT⟩) (fun _ _ _ => by omega) (fun _ _ _ => by omega)
  · exact zc_mthing hd hL h2 hn (fun _ => by omega) (fun _ _ _ => ⟨rfl, zmd_rf _ _, hT⟩) (fun _ _ _ => by omega)
  · refine zc_mthing hd (zLay_wA (zLay_wA hL _ _ _) _ _ _) (k := n) (by simp only [zA_wA]; simp [h2]) hn (fun _ => by omega) (fun _ _ _ => by omega) (fun _ _ _ => ⟨rfl, ?_, n + 1, by omega, ?_, ?_, ?_, ?_, ?_⟩)
    · exact zmd_w (zmd_w (zmd_w (zmd_w (zmd_w (zmd_rf _ _) rfl) rfl) rfl) rfl) rfl
    · simp only [zA_wA]; simp
    · simp only [zA_wA]; simp
    · intro t ht
      simp only [zA_wA]
      by_cases e : t = n
      · simp [e]; omega
      · simp [e]; exact h3 t (by omega)
    · intro t ht
      obtain ⟨g1, g2, g3⟩ := h4 t ht
      simp only [zA_wA]
      refine ⟨by simpa using g1, fun hq => by simpa using g2 (by omega), fun hq => ?_⟩
      by_cases e : t = n
      · have := g2 (by omega)
        simp [e]; rw [← e, this]
      · simp [e]; exact g3 (by omega)
    · intro t ht i hi
      simp only [zA_wA] at hi ⊢
      simp at hi ⊢
      by_cases e : t = n
      · have := (h4 t (by omega)).2.1 (by omega)
        omega
      · exact h5 t (by omega) i hi
theorem zp_lost {xs : Nat → Int} {L d : Nat} {H : zH} {k x : Int} (hd : 2 ≤ d) (hL : zLay H) (hO : iOd H) : zPair xs L d 154 260 [zi k, zi x] H (fun H2 => zmd (zin [26, 139] []) H H2 ∧ iOd H2) := by
  refine zc_lost (by omega) hL (fun q => ?_) (fun q1 q2 q3 q4 => ?_)
  · exact zc_mlost hd hL (fun _ => ⟨rfl, zmd_rf _ _, hO⟩) (fun _ _ _ _ => by omega)
  · refine zc_mlost hd (zLay_wA hL _ _ _) (fun _ => by omega) (fun _ _ _ _ => ⟨by simp only [zA_wA]; simp; exact (hO.1 k.toNat (by omega)).2, zmd_w (zmd_w (zmd_rf _ _) rfl) rfl, fun j hj => ?_, fun j hj => ?_, fun j hj => ?_⟩)
    · simp only [zA_wA]
      by_cases e : j = k.toNat
      · simp [e]; omega
      · simp [e]; exact hO.1 j hj
    · simp only [zA_wA]; simp; exact hO.2.1 j hj
    · simp only [zA_wA]; simp; exact hO.2.2 j hj
theorem zp_mistaken {xs : Nat → Int} {L d : Nat} {H : zH} {k a x : Int} (hd : 2 ≤ d) (hL : zLay H) (hO : iOd H) : zPair xs L d 156 261 [zi k, zi a, zi x] H (fun H2 => zmd (zin [27, 140] []) H H2 ∧ iOd H2) := by
  refine zc_mistaken (by omega) hL (fun q => ?_) (fun q1 q2 q3 q4 q5 q6 q7 => ?_)
  · exact zc_mmistaken hd hL (fun _ => ⟨rfl, zmd_rf _ _, hO⟩) (fun _ _ _ _ _ _ _ => by omega)
  · refine zc_mmistaken hd (zLay_wA hL _ _ _) (fun _ => by omega) (fun _ _ _ _ _ _ _ => ⟨?_, zmd_w (zmd_w (zmd_rf _ _) rfl) rfl, fun j hj => ?_, fun j hj => ?_, fun j hj => ?_⟩)
    · simp only [zA_wA]
      simp
      rw [show (8 * k + a).toNat = (k * 8 + a).toNat by omega]
      exact (hO.2.1 _ (by omega)).2
    · simp only [zA_wA]; simp; exact hO.1 j hj
    · simp only [zA_wA]
      rw [show (8 * k + a).toNat = (k * 8 + a).toNat by omega]
      by_cases e : j = (k * 8 + a).toNat
      · simp [e]; omega
      · simp [e]; exact hO.2.1 j hj
    · simp only [zA_wA]
      simp
      rw [if_neg (by omega)]
      exact hO.2.2 j hj
