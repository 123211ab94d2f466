/-! ===== shows: both sides ===== -/
def iSh (H : zH) : Prop := ∃ T S : Nat, T ≤ 100 ∧ S ≤ 300 ∧ (zA H 87 2 = T ∧ zA H 106 51 = T) ∧ (zA H 87 5 = S ∧ zA H 106 52 = S) ∧
  (∀ i : Nat, i < T → zA H 148 i = zA H 88 i ∧ zA H 147 i = zA H 89 i ∧ (0 ≤ zA H 89 i ∧ zA H 89 i < S) ∧ zA H 90 (zA H 89 i).toNat = i ∧ (-1 ≤ zA H 88 i ∧ zA H 88 i ≤ 39)) ∧
  (∀ s : Nat, s < S → zA H 145 s = zA H 90 s ∧ zA H 146 s = zA H 91 s ∧ (0 ≤ zA H 90 s ∧ zA H 90 s < T) ∧ (0 ≤ zA H 91 s ∧ zA H 91 s ≤ 39) ∧ zA H 89 (zA H 90 s).toNat ≤ s) ∧
  ∀ i j : Nat, i < j → j < T → zA H 89 i < zA H 89 j
theorem zp_putRight {xs : Nat → Int} {L d : Nat} {H : zH} {i t : Int} (hd : 2 ≤ d) (hL : zLay H) (hT : iTh H) (hS : iSh H) : zPair xs L d 185 273 [zi i, zi t] H (fun H2 => zmd (zin [90, 91, 145, 146] [(87, 5), (106, 52)]) H H2 ∧ iSh H2) := by
  obtain ⟨n, hn, g1, g2, -⟩ := hT
  obtain ⟨T, S, hT1, hS1, ⟨a1, a2⟩, ⟨b1, b2⟩, c1, c2, c3⟩ := id hS
  refine zc_putRight (by omega) hL a1 b1 g1 hT1 hS1 hn (fun q => ?_) (fun q1 q2 q3 q4 q5 => ?_) (fun q1 q2 q3 q4 q5 => ?_)
  · exact zc_mputRight hd hL a2 b2 g2 hT1 hS1 hn (fun _ => ⟨rfl, zmd_rf _ _, hS⟩) (fun _ _ _ _ _ => by omega) (fun _ _ _ _ _ => by omega)
  · exact zc_mputRight hd hL a2 b2 g2 hT1 hS1 hn (fun _ => by omega) (fun _ _ _ _ _ => ⟨rfl, zmd_rf _ _, hS⟩) (fun _ _ _ _ _ => by omega)
  · refine zc_mputRight (T := T) (S := S) (n := n) hd (zLay_wA (zLay_wA (zLay_wA hL _ _ _) _ _ _) _ _ _) (by simp only [zA_wA]; simp [a2]) (by simp only [zA_wA]; simp [b2]) (by simp only [zA_wA]; simp [g2]) hT1 hS1 hn (fun _ => by omega) (fun _ _ _ _ _ => by omega) (fun _ _ _ _ _ => ⟨rfl, zmd_w (zmd_w (zmd_w (zmd_w (zmd_w (zmd_w (zmd_rf _ _) rfl) rfl) rfl) rfl) rfl) rfl, T, S + 1, hT1, by omega, ⟨?_, ?_⟩, ⟨?_, ?_⟩, fun k hk => ?_, fun s hs => ?_, fun k j hkj hj => ?_⟩)
    · simp only [zA_wA]; simp [a1]
    · simp only [zA_wA]; simp [a2]
    · simp only [zA_wA]; simp
    · simp only [zA_wA]; simp
    · have q := c1 k hk
      simp only [zA_wA]
      simp
      refine ⟨q.1, q.2.1, ⟨q.2.2.1.1, by omega⟩, ?_, q.2.2.2.2⟩
      rw [if_neg (by omega)]
      exact q.2.2.2.1
    · simp only [zA_wA]
      simp
      by_cases e : s = S
      · subst e
        simp
        have q := c1 i.toNat (by omega)
        omega
      · simp [e]
        have q := c2 s (by omega)
        exact ⟨q.1, q.2.1, q.2.2.1, q.2.2.2.1, q.2.2.2.2⟩
    · simp only [zA_wA]; simp; exact c3 k j hkj hj
theorem zsw_t0 : zsw 118 0 3 #[64, 77, 84, 111] 0 = 64 := by decide
theorem zsw_t1 : zsw 118 0 3 #[64, 77, 84, 111] 1 = 77 := by decide
theorem zsw_t2 : zsw 118 0 3 #[64, 77, 84, 111] 2 = 84 := by decide
theorem zsw_t3 : zsw 118 0 3 #[64, 77, 84, 111] 3 = 111 := by decide
theorem zsw_m0 : zsw 114 0 3 #[72, 79, 86, 107] 0 = 72 := by decide
theorem zsw_m1 : zsw 114 0 3 #[72, 79, 86, 107] 1 = 79 := by decide
theorem zsw_m2 : zsw 114 0 3 #[72, 79, 86, 107] 2 = 86 := by decide
theorem zsw_m3 : zsw 114 0 3 #[72, 79, 86, 107] 3 = 107 := by decide
theorem zsw_o {d lo hi x : Int} {a : Array Int} (h : x < lo ∨ hi < x) : zsw d lo hi a x = d := by unfold zsw; rw [if_pos h]
