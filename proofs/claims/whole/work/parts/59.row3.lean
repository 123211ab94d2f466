theorem zCD {H : zH} {n u : Nat} {f : Nat → Int} (hu : u < 40) : zA (zwA (zMW (zwA H 106 1 0) 116 240 n f) 117 40 n) 117 u = zA H 117 u ∧ zA (zwA (zMW (zwA H 106 1 0) 116 240 n f) 117 40 n) 117 40 = n ∧ (∀ i : Nat, i < 6 → zA (zwA (zMW (zwA H 106 1 0) 116 240 n f) 117 40 n) 116 (6 * u + i) = zA H 116 (6 * u + i)) ∧ ∀ i : Nat, i < n → zA (zwA (zMW (zwA H 106 1 0) 116 240 n f) 117 40 n) 116 (6 * 40 + i) = f i := by
  refine ⟨?_, ?_, fun i hi => ?_, fun i hi => ?_⟩
  · simp only [zA_wA, zA_mp, Nat.reduceEqDiff, false_and, if_false, true_and]
    rw [if_neg (by omega)]
  · simp only [zA_wA, zA_mp, Nat.reduceEqDiff, false_and, if_false, true_and, if_true]
  · simp only [zA_wA, zA_mp, Nat.reduceEqDiff, false_and, if_false, true_and]
    rw [if_neg (by omega)]
  · simp only [zA_wA, zA_mp, Nat.reduceEqDiff, false_and, if_false, true_and]
    rw [if_pos (by omega), show 6 * 40 + i - 240 = i by omega]
theorem zCDp {H : zH} {n t u : Nat} {f : Nat → Int} (hu : u < 40) (hr : 0 ≤ zA H 117 u ∧ zA H 117 u ≤ 6) (hn : 1 ≤ n) : (u ≠ t ∧ 0 < zA (zwA (zMW (zwA H 106 1 0) 116 240 n f) 117 40 n) 117 u ∧ zBg (zA (zwA (zMW (zwA H 106 1 0) 116 240 n f) 117 40 n) 117) (zA (zwA (zMW (zwA H 106 1 0) 116 240 n f) 117 40 n) 116) u 40) ↔ (zAl (zA H 117) (zA H 116) f t n u ∧ zA H 117 u ≤ n) := by
  obtain ⟨e1, e2, e3, e4⟩ := zCD (H := H) (n := n) (f := f) hu
  unfold zBg zAl
  rw [e1, e2]
  constructor
  · rintro ⟨a, b, c, g⟩
    exact ⟨⟨a, b, by omega, fun j hj hj2 => by have := g j hj; rw [e3 j (by omega), e4 j hj2] at this; exact this⟩, c⟩
  · rintro ⟨⟨a, b, c, g⟩, k⟩
    exact ⟨a, b, k, fun j hj => by rw [e3 j (by omega), e4 j (by omega)]; exact g j hj (by omega)⟩
theorem zCDq {H : zH} {n t u : Nat} {f : Nat → Int} (hu : u < 40) (hr : 0 ≤ zA H 117 u ∧ zA H 117 u ≤ 6) (hn : 1 ≤ n) (hn6 : n ≤ 6) : (u ≠ t ∧ 0 < zA (zwA (zMW (zwA H 106 1 0) 116 240 n f) 117 40 n) 117 u ∧ zBg (zA (zwA (zMW (zwA H 106 1 0) 116 240 n f) 117 40 n) 117) (zA (zwA (zMW (zwA H 106 1 0) 116 240 n f) 117 40 n) 116) 40 u) ↔ (zAl (zA H 117) (zA H 116) f t n u ∧ (n : Int) ≤ zA H 117 u) := by
  obtain ⟨e1, e2, e3, e4⟩ := zCD (H := H) (n := n) (f := f) hu
  unfold zBg zAl
  rw [e1, e2]
  constructor
  · rintro ⟨a, b, c, g⟩
    exact ⟨⟨a, b, by omega, fun j hj hj2 => by have := g j (by omega); rw [e3 j (by omega), e4 j hj2] at this; exact this.symm⟩, c⟩
  · rintro ⟨⟨a, b, c, g⟩, k⟩
    exact ⟨a, b, k, fun j hj => by rw [e3 j (by omega), e4 j (by omega)]; exact (g j (by omega) (by omega)).symm⟩
theorem zp_row {xs : Nat → Int} {L d : Nat} {H : zH} {ti : Int} (hd : 3 ≤ d) (hL : zLay H) (hT : iT H) (hI : iTh H) (hF : iF H) : zPair xs L d 43 215 [zi ti] H (fun H2 => zmd (zin [23, 24, 25, 116, 117] [(2, 3), (106, 1)]) H H2 ∧ iT H2 ∧ iTh H2) := by
  obtain ⟨n, hn, h1, h2, hb⟩ := id hT
  obtain ⟨s, hs4, g1, g2, g3, g4, g5⟩ := id hI
  obtain ⟨f1, f2⟩ := iF_b hF
  have hrs : ∀ t : Nat, t < 40 → 0 ≤ zA H 23 t ∧ zA H 23 t ≤ 6 := fun t ht => (g4 t ht).1
  have hrm : ∀ t : Nat, t < s → 0 ≤ zA H 117 t ∧ zA H 117 t ≤ 6 := fun t ht => by rw [(g4 t (by omega)).2.2 ht]; exact hrs t (by omega)
  have eR : (∀ j : Nat, j < n → 65 ≤ zA H 107 j ∧ zA H 107 j ≤ 72) ↔ (∀ j : Nat, j < n → 65 ≤ zA H 3 j ∧ zA H 3 j ≤ 72) := by
    refine forall_congr' (fun i => imp_congr_right (fun hi => ?_))
    rw [(hb i hi).2]
    exact zsb_in (hb i hi).1 (by omega) (by omega)
  have eT : (∀ j : Nat, j < n → 65 ≤ zA H 3 j ∧ zA H 3 j ≤ 72) → ∀ i : Nat, i < n → zA H 107 i = zA H 3 i := fun g i hi => by
    rw [(hb i hi).2, zsb_eq (by have := g i hi; omega)]
  have eN : (∀ j : Nat, j < n → 65 ≤ zA H 3 j ∧ zA H 3 j ≤ 72) → (zNat (zbit (zA H 6 3)) (zmfC H) (fun j => zA H 3 j - 65) n ↔ zNat (zA H 111) (zA H 112) (fun j => zA H 107 j - 65) n) := fun g =>
    zNat_c (fun k hk => (hF.1.2 k hk).symm) (fun k hk => (f2 k hk).symm) (fun i hi => ⟨by have := g i (by omega); (try simp only); omega, by rw [eT g i (by omega)]⟩)
  have eA : (∀ j : Nat, j < n → 65 ≤ zA H 3 j ∧ zA H 3 j ≤ 72) → ∀ t u : Nat, u < s → (zAl (zA H 117) (zA H 116) (fun j => zA H 107 j - 65) t n u ↔ zAl (zA H 23) (zA H 24) (fun j => zA H 3 j - 65) t n u) := fun g t u hu =>
    zAl_c ((g4 u (by omega)).2.2 hu) (fun j hj => (g5 u hu j (by rw [← (g4 u (by omega)).2.2 hu]; exact hj)).2) (fun j hj => by rw [eT g j hj])
  have fin0 : ∀ H2, zmd (zin [25, 116, 117] [(2, 3), (106, 1)]) H H2 → zA H2 2 3 = 0 → zA H2 106 1 = 0 → (∀ t : Nat, t < s → zA H2 117 t = zA H 117 t) → (∀ k : Nat, k < 240 → zA H2 116 k = zA H 116 k) → zmd (zin [23, 24, 25, 116, 117] [(2, 3), (106, 1)]) H H2 ∧ iT H2 ∧ iTh H2 := by
    intro H2 hm z1 z2 z3 z4
    have e23 : ∀ j, zA H2 23 j = zA H 23 j := fun j => hm.2.2.2 23 j rfl
    have e24 : ∀ j, zA H2 24 j = zA H 24 j := fun j => hm.2.2.2 24 j rfl
    have e22 : ∀ j, zA H2 22 j = zA H 22 j := fun j => hm.2.2.2 22 j rfl
    have e115 : ∀ j, zA H2 115 j = zA H 115 j := fun j => hm.2.2.2 115 j rfl
    refine ⟨zmd_up hm rfl, iT_0 z1 z2, s, hs4, (hm.2.2.2 21 3 rfl).trans g1, (hm.2.2.2 106 11 rfl).trans g2, fun t ht => ?_, fun t ht => ?_, fun t ht i hi => ?_⟩
    · rw [e22, e115]; exact g3 t ht
    · rw [e23]; exact ⟨(g4 t ht).1, (g4 t ht).2.1, fun h => by rw [z3 t h]; exact (g4 t ht).2.2 h⟩
    · rw [e23] at hi
      have := hrs t (by omega)
      rw [e24, z4 _ (by omega)]
      exact g5 t ht i hi
  have L25 : ∀ i f, zLay (zwA (zMW H 25 0 i f) 2 3 0) := fun i f => zLay_wA (zLay_mp hL _ _ _ _) _ _ _
  have m25 : ∀ i f, zmd (zin [25, 116, 117] [(2, 3), (106, 1)]) H (zwA (zMW H 25 0 i f) 2 3 0) := fun i f => zmd_w (zmd_mp (zmd_rf _ _) (fun _ => rfl)) rfl
  have finD : ∀ (i : Nat) (f f' : Nat → Int), n ≤ 6 → zmd (zin [23, 24, 25, 116, 117] [(2, 3), (106, 1)]) H (zwA (zMW (zwA (zwA (zMW H 25 0 i f) 2 3 0) 106 1 0) 116 240 n f') 117 40 n) ∧ iT (zwA (zMW (zwA (zwA (zMW H 25 0 i f) 2 3 0) 106 1 0) 116 240 n f') 117 40 n) ∧ iTh (zwA (zMW (zwA (zwA (zMW H 25 0 i f) 2 3 0) 106 1 0) 116 240 n f') 117 40 n) := by
    intro i f f' h6
    refine fin0 _ (zmd_w (zmd_mp (zmd_w (m25 i f) rfl) (fun _ => rfl)) rfl) rfl rfl (fun t ht => ?_) (fun k hk => ?_)
    · simp only [zA_wA, zA_mp, Nat.reduceEqDiff, false_and, if_false, true_and]
      rw [if_neg (by omega)]
    · simp only [zA_wA, zA_mp, Nat.reduceEqDiff, false_and, if_false, true_and]
      rw [if_neg (by omega)]
  refine zc_row hd hL h1 hn (fun j hj => (hb j hj).1) g1 hs4 hrs ⟨hF.1.1, fun c hc => (hF.2 c hc).1⟩ (fun g => ?_) (fun t e1 e2 g i hi => ?_) (fun t e1 e2 k1 k2 k3 k4 => ?_) (fun t e1 e2 k1 k2 k3 k4 k5 => ?_) (fun t e1 e2 k1 k2 k3 k4 k5 k6 => ?_) (fun t e1 e2 k1 k2 k3 => ?_)
  · exact zc_mrow (s := s) (n := n) (by omega) (zLay_wA hL _ _ _) h2 hn g2 hs4 hrm f1 (fun _ => ⟨rfl, fin0 _ (zmd_w (zmd_w (zmd_rf _ _) rfl) rfl) rfl rfl (fun _ _ => rfl) (fun _ _ => rfl)⟩) (fun t e1 e2 => absurd e1 (g t e2)) (fun t e1 e2 => absurd e1 (g t e2)) (fun t e1 e2 => absurd e1 (g t e2)) (fun t e1 e2 => absurd e1 (g t e2)) (fun t e1 e2 => absurd e1 (g t e2)) (fun t e1 e2 => absurd e1 (g t e2))
  · have no : ∀ {X : Prop}, n ≤ 6 → (∀ j : Nat, j < n → 65 ≤ zA H 107 j ∧ zA H 107 j ≤ 72) → X := fun a b => absurd ⟨a, eR.mp b⟩ g
    exact zc_mrow (s := s) (n := n) (by omega) (L25 _ _) h2 hn g2 hs4 hrm f1 (fun k => absurd e1 (k t e2)) (fun _ _ _ _ => ⟨rfl, fin0 _ (zmd_w (m25 _ _) rfl) rfl rfl (fun _ _ => rfl) (fun _ _ => rfl)⟩) (fun _ _ _ a _ b => no a b) (fun _ _ _ a _ b => no a b) (fun _ _ _ a _ b => no a b) (fun _ _ _ a _ b => no a b) (fun _ _ _ a => no (by omega) (fun j hj => by omega))
  · have nn : ¬ zNat (zA H 111) (zA H 112) (fun j => zA H 107 j - 65) n := fun k => k4 ((eN k3).mpr k)
    exact zc_mrow (s := s) (n := n) (by omega) (L25 _ _) h2 hn g2 hs4 hrm f1 (fun k => absurd e1 (k t e2)) (fun _ _ _ k => absurd ⟨k1, eR.mpr k3⟩ k) (fun _ _ _ _ _ _ _ => ⟨rfl, finD _ _ _ k1⟩) (fun _ _ _ _ _ _ k => absurd k nn) (fun _ _ _ _ _ _ k => absurd k nn) (fun _ _ _ _ _ _ k => absurd k nn) (fun _ _ _ k => by omega)
  · have nn : zNat (zA H 111) (zA H 112) (fun j => zA H 107 j - 65) n := (eN k3).mp k4
    obtain ⟨u, u1, u2, u3⟩ := k5
    have e23 := (g4 u (by omega)).2.2 u1
    have ex : zAl (zA H 117) (zA H 116) (fun j => zA H 107 j - 65) t n u ∧ zA H 117 u ≤ n := ⟨(eA k3 t u u1).mpr u2, by rw [e23]; exact u3⟩
    have tt : ∀ t' : Nat, ti = t' → t' = t := fun t' h => by omega
    refine zc_mrow (s := s) (n := n) (by omega) (L25 _ _) h2 hn g2 hs4 hrm f1 (fun k => absurd e1 (k t e2)) (fun _ _ _ k => absurd ⟨k1, eR.mpr k3⟩ k) (fun _ _ _ _ _ _ k => absurd nn k) (fun _ _ _ _ _ _ _ _ => ⟨rfl, finD _ _ _ k1⟩) (fun t' a _ _ _ _ _ k => ?_) (fun t' a _ _ _ _ _ k => ?_) (fun _ _ _ k => by omega)
    · rw [tt t' a] at k
      exact absurd ((zCDp (H := zwA (zMW H 25 0 n (fun j => zA H 3 j - 65)) 2 3 0) (t := t) (f := fun j => zA (zwA (zMW H 25 0 n (fun j => zA H 3 j - 65)) 2 3 0) 107 j - 65) (by omega) (hrm u u1) k2).mpr ex) (k u u1)
    · rw [tt t' a] at k
      exact absurd ((zCDp (H := zwA (zMW H 25 0 n (fun j => zA H 3 j - 65)) 2 3 0) (t := t) (f := fun j => zA (zwA (zMW H 25 0 n (fun j => zA H 3 j - 65)) 2 3 0) 107 j - 65) (by omega) (hrm u u1) k2).mpr ex) (k u u1)
  · have nn : zNat (zA H 111) (zA H 112) (fun j => zA H 107 j - 65) n := (eN k3).mp k4
    obtain ⟨u, u1, u2⟩ := k6
    have e23 := (g4 u (by omega)).2.2 u1
    have ex : zAl (zA H 117) (zA H 116) (fun j => zA H 107 j - 65) t n u ∧ (n : Int) ≤ zA H 117 u := ⟨(eA k3 t u u1).mpr u2, by rw [e23]; have := k5 u u1 u2; omega⟩
    have tt : ∀ t' : Nat, ti = t' → t' = t := fun t' h => by omega
    refine zc_mrow (s := s) (n := n) (by omega) (L25 _ _) h2 hn g2 hs4 hrm f1 (fun k => absurd e1 (k t e2)) (fun _ _ _ k => absurd ⟨k1, eR.mpr k3⟩ k) (fun _ _ _ _ _ _ k => absurd nn k) (fun t' a _ _ _ _ _ k => ?_) (fun _ _ _ _ _ _ _ _ _ => ⟨rfl, finD _ _ _ k1⟩) (fun t' a _ _ _ _ _ _ k => ?_) (fun _ _ _ k => by omega)
    · rw [tt t' a] at k
      obtain ⟨v, v1, v2⟩ := k
      obtain ⟨w1, w2⟩ := (zCDp (H := zwA (zMW H 25 0 n (fun j => zA H 3 j - 65)) 2 3 0) (t := t) (f := fun j => zA (zwA (zMW H 25 0 n (fun j => zA H 3 j - 65)) 2 3 0) 107 j - 65) (by omega) (hrm v v1) k2).mp v2
      have w2 : zA H 117 v ≤ n := w2
      have := k5 v v1 ((eA k3 t v v1).mp w1)
      have e23 := (g4 v (by omega)).2.2 v1
      omega
    · rw [tt t' a] at k
      exact absurd ((zCDq (H := zwA (zMW H 25 0 n (fun j => zA H 3 j - 65)) 2 3 0) (t := t) (f := fun j => zA (zwA (zMW H 25 0 n (fun j => zA H 3 j - 65)) 2 3 0) 107 j - 65) (by omega) (hrm u u1) k2 k1).mpr ex) (k u u1)
  · have tt : ∀ t' : Nat, ti = t' → t' = t := fun t' h => by omega
    have ha : ∀ u : Nat, u < s → 1 ≤ n → ¬ zAl (zA H 117) (zA H 116) (fun j => zA H 107 j - 65) t n u := fun u hu h k => (k3 h).2 u hu ((eA k2 t u hu).mp k)
    have LL : ∀ f : Nat → Int, zLay (zwA (zwA (zMW (zMW H 25 0 n (fun j => zA H 3 j - 65)) 24 (t * 6) n f) 23 t n) 2 3 0) := fun f => zLay_wA (zLay_wA (zLay_mp (zLay_mp hL _ _ _ _) _ _ _ _) _ _ _) _ _ _
    have finK : ∀ H2, zmd (zin [23, 24, 25, 116, 117] [(2, 3), (106, 1)]) H H2 → zA H2 2 3 = 0 → zA H2 106 1 = 0 → (∀ u : Nat, u < 40 → zA H2 23 u = if u = t then (n : Int) else zA H 23 u) → (∀ u : Nat, u < s → zA H2 117 u = if u = t then (n : Int) else zA H 117 u) → (∀ u i : Nat, u < s → u ≠ t → i < 6 → zA H2 24 (6 * u + i) = zA H 24 (6 * u + i) ∧ zA H2 116 (6 * u + i) = zA H 116 (6 * u + i)) → (∀ i : Nat, i < n → zA H2 24 (6 * t + i) = zA H 3 i - 65 ∧ zA H2 116 (6 * t + i) = zA H 107 i - 65) → zmd (zin [23, 24, 25, 116, 117] [(2, 3), (106, 1)]) H H2 ∧ iT H2 ∧ iTh H2 := by
      intro H2 hm z1 z2 z3 z4 z5 z6
      have e22 : ∀ j, zA H2 22 j = zA H 22 j := fun j => hm.2.2.2 22 j rfl
      have e115 : ∀ j, zA H2 115 j = zA H 115 j := fun j => hm.2.2.2 115 j rfl
      refine ⟨hm, iT_0 z1 z2, s, hs4, (hm.2.2.2 21 3 rfl).trans g1, (hm.2.2.2 106 11 rfl).trans g2, fun u hu => ?_, fun u hu => ?_, fun u hu i hi => ?_⟩
      · rw [e22, e115]; exact g3 u hu
      · rw [z3 u hu]
        by_cases e : u = t
        · rw [if_pos e]
          refine ⟨by omega, fun h => by omega, fun h => ?_⟩
          rw [z4 u h, if_pos e]
        · rw [if_neg e]
          refine ⟨(g4 u hu).1, (g4 u hu).2.1, fun h => ?_⟩
          rw [z4 u h, if_neg e]
          exact (g4 u hu).2.2 h
      · rw [z3 u (by omega)] at hi
        by_cases e : u = t
        · subst e
          rw [if_pos rfl] at hi
          obtain ⟨a, b⟩ := z6 i (by omega)
          have := k2 i (by omega)
          rw [a, b, eT k2 i (by omega)]
          exact ⟨by omega, rfl⟩
        · rw [if_neg e] at hi
          have := hrs u (by omega)
          obtain ⟨a, b⟩ := z5 u i hu e (by omega)
          rw [a, b]
          exact g5 u hu i hi
    refine zc_mrow (s := s) (n := n) (by omega) (LL _) h2 hn g2 hs4 hrm f1 (fun k => absurd e1 (k t e2)) (fun _ _ _ k => absurd ⟨k1, eR.mpr k2⟩ k) (fun _ _ _ _ a _ k => absurd ((eN k2).mp (k3 a).1) k) (fun t' a _ _ c _ _ k => ?_) (fun t' a _ _ c _ _ _ k => ?_) (fun t' a _ _ c _ _ _ _ => ⟨rfl, ?_⟩) (fun t' a _ c => ⟨rfl, ?_⟩)
    · rw [tt t' a] at k
      obtain ⟨v, v1, v2⟩ := k
      obtain ⟨w1, w2⟩ := (zCDp (H := zwA (zwA (zMW (zMW H 25 0 n (fun j => zA H 3 j - 65)) 24 (t * 6) n (zA (zMW H 25 0 n (fun j => zA H 3 j - 65)) 25)) 23 t n) 2 3 0) (t := t) (f := fun j => zA (zwA (zwA (zMW (zMW H 25 0 n (fun j => zA H 3 j - 65)) 24 (t * 6) n (zA (zMW H 25 0 n (fun j => zA H 3 j - 65)) 25)) 23 t n) 2 3 0) 107 j - 65) (by omega) (hrm v v1) c).mp v2
      exact absurd w1 (ha v v1 c)
    · rw [tt t' a] at k
      obtain ⟨v, v1, v2⟩ := k
      obtain ⟨w1, w2⟩ := (zCDq (H := zwA (zwA (zMW (zMW H 25 0 n (fun j => zA H 3 j - 65)) 24 (t * 6) n (zA (zMW H 25 0 n (fun j => zA H 3 j - 65)) 25)) 23 t n) 2 3 0) (t := t) (f := fun j => zA (zwA (zwA (zMW (zMW H 25 0 n (fun j => zA H 3 j - 65)) 24 (t * 6) n (zA (zMW H 25 0 n (fun j => zA H 3 j - 65)) 25)) 23 t n) 2 3 0) 107 j - 65) (by omega) (hrm v v1) c k1).mp v2
      exact absurd w1 (ha v v1 c)
    · rw [tt t' a]
      refine finK _ ?_ rfl rfl (fun u hu => ?_) (fun u hu => ?_) (fun u i hu hne hi => ⟨?_, ?_⟩) (fun i hi => ⟨?_, ?_⟩)
      · exact zmd_mp (zmd_w (zmd_w (zmd_mp (zmd_w (zmd_w (zmd_w (zmd_mp (zmd_mp (zmd_rf _ _) (fun _ => rfl)) (fun _ => rfl)) rfl) rfl) rfl) (fun _ => rfl)) rfl) rfl) (fun _ => rfl)
      all_goals simp only [zA_wA, zA_mp, Nat.reduceEqDiff, false_and, if_false, true_and]
      · by_cases e : u = t
        · rw [if_pos e, if_pos e]
        · rw [if_neg e, if_neg e, if_neg (by omega)]
      · rw [if_neg (by omega)]
      · rw [if_neg (by omega), if_neg (by omega)]
      · rw [if_pos (by omega), if_pos (by omega), show 6 * t + i - t * 6 - 0 = i by omega]
      · rw [if_pos (by omega), show 6 * t + i - 6 * t = i by omega]
    · rw [tt t' a]
      refine finK _ ?_ rfl rfl (fun u hu => ?_) (fun u hu => ?_) (fun u i hu hne hi => ⟨?_, ?_⟩) (fun i hi => by omega)
      · exact zmd_w (zmd_w (zmd_w (zmd_w (zmd_mp (zmd_mp (zmd_rf _ _) (fun _ => rfl)) (fun _ => rfl)) rfl) rfl) rfl) rfl
      all_goals simp only [zA_wA, zA_mp, Nat.reduceEqDiff, false_and, if_false, true_and]
      rw [if_neg (by omega)]
