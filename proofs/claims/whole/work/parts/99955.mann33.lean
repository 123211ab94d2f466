theorem zp_manners94 {xs : Nat → Int} {L d : Nat} {H : zH} (hd : 14 ≤ d) (hL : zLay H) (hB : zBy H) (hT : iT H) (h8 : zR H 1 8 = some 100) (h9 : zR H 1 9 = some 94) (hM : ∃ (n : Nat) (t : Nat → Int) (w : Nat × (Nat → Nat × Nat)) (tk : List Nat) (rs : Nat → Int) (ru : Nat → List (List (zIt 4))), iMg H 100 n t w tk rs ru ∧ zCac H ru rs) : zPair xs L d 110 279 [] H (fun H2 => zmg (zin [94, 95, 96, 97, 98, 99, 100, 101, 102, 103, 104, 105, 149, 150, 151, 152, 153, 154, 155, 156, 157] [(1, 11), (1, 12), (2, 3), (78, 4), (106, 1), (106, 66), (106, 67), (106, 68), (106, 69), (106, 70), (106, 71), (106, 72), (106, 73), (106, 74)]) (zin [] [(1, 8), (1, 9)]) H H2 ∧ iT H2 ∧ (zA H2 106 73 = zA H2 1 11 ∧ zA H2 106 74 = zA H2 1 12) ∧ iMn H2) := by
  obtain ⟨n, hn, hn2, hn3, hb⟩ := hT
  unfold zPair
  refine zEm_by hB (zc_cmanners94 hL (by omega) hn hn2 h8 h9 (fun G k pl mG g11 g12 g3 gR hBG => ?_) (fun G s mG g11 g12 g3 g78 g8 g9 gS gB gst gR hBG => ?_))
  · have hLG := zmd_lay mG hL
    refine zc_mmanners (n := n) (t := zA H 3) (R := zprs (zA H 3) n n 0 zσ0) hd hLG hBG hn (by rw [mG.2.2.2 106 1 rfl]; exact hn3) (fun j hj => ⟨(hb j hj).1, by rw [mG.2.2.2 107 j rfl]; exact (hb j hj).2⟩) rfl (fun G2 k' pl' m2 e1 e73 e74 e => ?_) (fun G2 it nm rl w tk rs m2 e1 e73 e74 e _ _ => ?_)
    · rw [gR] at e
      cases e
      have m26 := zS6_7 m2
      refine ⟨rfl, zmg_d (zmd_tr (zmd_up mG rfl) (zmd_up m26 rfl)), ⟨0, by omega, by rw [m26.2.2.2 2 3 rfl]; exact g3, e1, fun j hj => by omega⟩, ⟨by rw [e73, m26.2.2.2 1 11 rfl]; exact g11.symm, by rw [e74, m26.2.2.2 1 12 rfl]; exact g12.symm⟩, ?_⟩
      obtain ⟨n0, t0, w0, tk0, rs0, ru0, hM1, hM2⟩ := hM
      refine ⟨100, n0, t0, w0, tk0, rs0, ru0, Or.inr ⟨rfl, by rw [m26.2.2.1, mG.2.2.1]; exact h8, by rw [m26.2.2.1, mG.2.2.1]; exact h9⟩, iMg_c (fun a j q => ?_) hM1, ?_⟩
      · have z7 : zS7 a j = false := by
          unfold zS7 zS5 zS4 zS2
          simp
          omega
        have zg : zin [94, 95, 96, 97, 98, 99] [(1, 11), (1, 12), (2, 3)] a j = false := by
          simp [zin]
          omega
        rw [m2.2.2.2 a j z7, mG.2.2.2 a j zg]
      · unfold zCac at hM2 ⊢
        rw [m26.2.2.2 78 4 rfl, mG.2.2.2 78 4 rfl]
        rcases hM2 with q | ⟨q1, q2⟩
        · exact Or.inl q
        · exact Or.inr ⟨q1, fun j hj => by rw [m26.2.2.2 82 j rfl, mG.2.2.2 82 j rfl]; exact q2 j hj⟩
    · rw [gR] at e
      cases e
  · have hLG := zmg_lay mG (by decide) hL
    refine zc_mmanners (n := n) (t := zA H 3) (R := zprs (zA H 3) n n 0 zσ0) hd hLG hBG hn (by rw [mG.2.2.2 106 1 rfl]; exact hn3) (fun j hj => ⟨(hb j hj).1, by rw [mG.2.2.2 107 j rfl]; exact (hb j hj).2⟩) rfl (fun G2 k' pl' m2 e1 e73 e74 e => ?_) (fun G2 it nm rl w tk rs m2 e1 e73 e74 e c157 cR => ?_)
    · rw [gR] at e
      cases e
    · have hwd := zprs_wd n 0 zσ0 s (fun v hv => absurd hv (Nat.not_lt_zero v)) gR
      rw [gR] at e
      cases e
      refine ⟨rfl, zmg_tr (zmg_up mG rfl rfl) (zmg_d (zmd_up (l := [149, 150, 151, 152, 153, 154, 155, 156, 157]) m2 rfl)), ⟨0, by omega, by rw [m2.2.2.2 2 3 rfl]; exact g3, e1, fun j hj => by omega⟩, ⟨by rw [e73, m2.2.2.2 1 11 rfl]; exact g11.symm, by rw [e74, m2.2.2.2 1 12 rfl]; exact g12.symm⟩, ?_⟩
      obtain ⟨ru, hru⟩ : ∃ ru : Nat → List (List (zIt 4)), ∀ k : Nat, k < 8 → 0 ≤ rs k → zRur G2 (zA H 3) w tk rs (ru k) k := by
        refine ⟨fun k => @Classical.epsilon (List (List (zIt 4))) ⟨[]⟩ (fun rows => zRur G2 (zA H 3) w tk rs rows k), fun k hk hk0 => ?_⟩
        have h : ∃ rows, zRur G2 (zA H 3) w tk rs rows k := by
          obtain ⟨rows, i, i', c, l', u, v, q1, q2⟩ := cR k hk hk0
          rw [Nat.zero_add] at q1
          exact ⟨rows, i, i', c, l', u, v, q1, q2⟩
        exact @Classical.epsilon_spec_aux (List (List (zIt 4))) ⟨[]⟩ (fun rows => zRur G2 (zA H 3) w tk rs rows k) h
      obtain ⟨⟨a1, a2⟩, ⟨a3, a4⟩, ⟨a5, a6⟩, a7, a8, a9, a10, a11, a12⟩ := gS
      obtain ⟨c1, c2, c3, c4, c5, c6, c7, c8, c9⟩ := gB
      refine ⟨94, n, zA H 3, w, tk, rs, ru, Or.inl ⟨rfl, by rw [m2.2.2.1]; exact g8, by rw [m2.2.2.1]; exact g9⟩, ⟨hn, fun j hj => by rw [m2.2.2.2 95 j rfl]; exact a2 j hj, by rw [m2.2.2.2 94 4 rfl]; exact a3, fun v hv => ⟨by rw [m2.2.2.2 96 v rfl]; exact (a4 v hv).1, by rw [m2.2.2.2 97 v rfl]; exact (a4 v hv).2⟩, by rw [m2.2.2.2 94 6 rfl]; exact a5, fun i hi => by rw [m2.2.2.2 98 i rfl]; exact a6 i hi, fun k hk => by rw [m2.2.2.2 99 k rfl]; exact a7 k hk, by omega, by omega, c3, hwd, c9, c157, hru, fun j hj => (hb j hj).1⟩, Or.inl (by rw [m2.2.2.2 78 4 rfl]; exact g78)⟩
theorem zp_manners100 {xs : Nat → Int} {L d : Nat} {H : zH} (hd : 14 ≤ d) (hL : zLay H) (hB : zBy H) (hT : iT H) (h8 : zR H 1 8 = some 94) (h9 : zR H 1 9 = some 100) (hM : ∃ (n : Nat) (t : Nat → Int) (w : Nat × (Nat → Nat × Nat)) (tk : List Nat) (rs : Nat → Int) (ru : Nat → List (List (zIt 4))), iMg H 94 n t w tk rs ru ∧ zCac H ru rs) : zPair xs L d 110 279 [] H (fun H2 => zmg (zin [94, 95, 96, 97, 98, 99, 100, 101, 102, 103, 104, 105, 149, 150, 151, 152, 153, 154, 155, 156, 157] [(1, 11), (1, 12), (2, 3), (78, 4), (106, 1), (106, 66), (106, 67), (106, 68), (106, 69), (106, 70), (106, 71), (106, 72), (106, 73), (106, 74)]) (zin [] [(1, 8), (1, 9)]) H H2 ∧ iT H2 ∧ (zA H2 106 73 = zA H2 1 11 ∧ zA H2 106 74 = zA H2 1 12) ∧ iMn H2) := by
  obtain ⟨n, hn, hn2, hn3, hb⟩ := hT
  unfold zPair
  refine zEm_by hB (zc_cmanners100 hL (by omega) hn hn2 h8 h9 (fun G k pl mG g11 g12 g3 gR hBG => ?_) (fun G s mG g11 g12 g3 g78 g8 g9 gS gB gst gR hBG => ?_))
  · have hLG := zmd_lay mG hL
    refine zc_mmanners (n := n) (t := zA H 3) (R := zprs (zA H 3) n n 0 zσ0) hd hLG hBG hn (by rw [mG.2.2.2 106 1 rfl]; exact hn3) (fun j hj => ⟨(hb j hj).1, by rw [mG.2.2.2 107 j rfl]; exact (hb j hj).2⟩) rfl (fun G2 k' pl' m2 e1 e73 e74 e => ?_) (fun G2 it nm rl w tk rs m2 e1 e73 e74 e _ _ => ?_)
    · rw [gR] at e
      cases e
      have m26 := zS6_7 m2
      refine ⟨rfl, zmg_d (zmd_tr (zmd_up mG rfl) (zmd_up m26 rfl)), ⟨0, by omega, by rw [m26.2.2.2 2 3 rfl]; exact g3, e1, fun j hj => by omega⟩, ⟨by rw [e73, m26.2.2.2 1 11 rfl]; exact g11.symm, by rw [e74, m26.2.2.2 1 12 rfl]; exact g12.symm⟩, ?_⟩
      obtain ⟨n0, t0, w0, tk0, rs0, ru0, hM1, hM2⟩ := hM
      refine ⟨94, n0, t0, w0, tk0, rs0, ru0, Or.inl ⟨rfl, by rw [m26.2.2.1, mG.2.2.1]; exact h8, by rw [m26.2.2.1, mG.2.2.1]; exact h9⟩, iMg_c (fun a j q => ?_) hM1, ?_⟩
      · have z7 : zS7 a j = false := by
          unfold zS7 zS5 zS4 zS2
          simp
          omega
        have zg : zin [100, 101, 102, 103, 104, 105] [(1, 11), (1, 12), (2, 3)] a j = false := by
          simp [zin]
          omega
        rw [m2.2.2.2 a j z7, mG.2.2.2 a j zg]
      · unfold zCac at hM2 ⊢
        rw [m26.2.2.2 78 4 rfl, mG.2.2.2 78 4 rfl]
        rcases hM2 with q | ⟨q1, q2⟩
        · exact Or.inl q
        · exact Or.inr ⟨q1, fun j hj => by rw [m26.2.2.2 82 j rfl, mG.2.2.2 82 j rfl]; exact q2 j hj⟩
    · rw [gR] at e
      cases e
  · have hLG := zmg_lay mG (by decide) hL
    refine zc_mmanners (n := n) (t := zA H 3) (R := zprs (zA H 3) n n 0 zσ0) hd hLG hBG hn (by rw [mG.2.2.2 106 1 rfl]; exact hn3) (fun j hj => ⟨(hb j hj).1, by rw [mG.2.2.2 107 j rfl]; exact (hb j hj).2⟩) rfl (fun G2 k' pl' m2 e1 e73 e74 e => ?_) (fun G2 it nm rl w tk rs m2 e1 e73 e74 e c157 cR => ?_)
    · rw [gR] at e
      cases e
    · have hwd := zprs_wd n 0 zσ0 s (fun v hv => absurd hv (Nat.not_lt_zero v)) gR
      rw [gR] at e
      cases e
      refine ⟨rfl, zmg_tr (zmg_up mG rfl rfl) (zmg_d (zmd_up (l := [149, 150, 151, 152, 153, 154, 155, 156, 157]) m2 rfl)), ⟨0, by omega, by rw [m2.2.2.2 2 3 rfl]; exact g3, e1, fun j hj => by omega⟩, ⟨by rw [e73, m2.2.2.2 1 11 rfl]; exact g11.symm, by rw [e74, m2.2.2.2 1 12 rfl]; exact g12.symm⟩, ?_⟩
      obtain ⟨ru, hru⟩ : ∃ ru : Nat → List (List (zIt 4)), ∀ k : Nat, k < 8 → 0 ≤ rs k → zRur G2 (zA H 3) w tk rs (ru k) k := by
        refine ⟨fun k => @Classical.epsilon (List (List (zIt 4))) ⟨[]⟩ (fun rows => zRur G2 (zA H 3) w tk rs rows k), fun k hk hk0 => ?_⟩
        have h : ∃ rows, zRur G2 (zA H 3) w tk rs rows k := by
          obtain ⟨rows, i, i', c, l', u, v, q1, q2⟩ := cR k hk hk0
          rw [Nat.zero_add] at q1
          exact ⟨rows, i, i', c, l', u, v, q1, q2⟩
        exact @Classical.epsilon_spec_aux (List (List (zIt 4))) ⟨[]⟩ (fun rows => zRur G2 (zA H 3) w tk rs rows k) h
      obtain ⟨⟨a1, a2⟩, ⟨a3, a4⟩, ⟨a5, a6⟩, a7, a8, a9, a10, a11, a12⟩ := gS
      obtain ⟨c1, c2, c3, c4, c5, c6, c7, c8, c9⟩ := gB
      refine ⟨100, n, zA H 3, w, tk, rs, ru, Or.inr ⟨rfl, by rw [m2.2.2.1]; exact g8, by rw [m2.2.2.1]; exact g9⟩, ⟨hn, fun j hj => by rw [m2.2.2.2 101 j rfl]; exact a2 j hj, by rw [m2.2.2.2 100 4 rfl]; exact a3, fun v hv => ⟨by rw [m2.2.2.2 102 v rfl]; exact (a4 v hv).1, by rw [m2.2.2.2 103 v rfl]; exact (a4 v hv).2⟩, by rw [m2.2.2.2 100 6 rfl]; exact a5, fun i hi => by rw [m2.2.2.2 104 i rfl]; exact a6 i hi, fun k hk => by rw [m2.2.2.2 105 k rfl]; exact a7 k hk, by omega, by omega, c3, hwd, c9, c157, hru, fun j hj => (hb j hj).1⟩, Or.inl (by rw [m2.2.2.2 78 4 rfl]; exact g78)⟩
theorem zp_manners {xs : Nat → Int} {L d : Nat} {H : zH} (hd : 14 ≤ d) (hL : zLay H) (hB : zBy H) (hT : iT H) (hM : iMn H) : zPair xs L d 110 279 [] H (fun H2 => zmg (zin [94, 95, 96, 97, 98, 99, 100, 101, 102, 103, 104, 105, 149, 150, 151, 152, 153, 154, 155, 156, 157] [(1, 11), (1, 12), (2, 3), (78, 4), (106, 1), (106, 66), (106, 67), (106, 68), (106, 69), (106, 70), (106, 71), (106, 72), (106, 73), (106, 74)]) (zin [] [(1, 8), (1, 9)]) H H2 ∧ iT H2 ∧ (zA H2 106 73 = zA H2 1 11 ∧ zA H2 106 74 = zA H2 1 12) ∧ iMn H2) := by
  obtain ⟨K, n, t, w, tk, rs, ru, hk, h1, h2⟩ := hM
  rcases hk with ⟨e, h8, h9⟩ | ⟨e, h8, h9⟩
  · subst e
    exact zp_manners100 hd hL hB hT h8 h9 ⟨n, t, w, tk, rs, ru, h1, h2⟩
  · subst e
    exact zp_manners94 hd hL hB hT h8 h9 ⟨n, t, w, tk, rs, ru, h1, h2⟩
