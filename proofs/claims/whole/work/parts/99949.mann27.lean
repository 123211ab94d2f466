/-! ===== bytes stay bytes, whatever runs ===== -/
def zBy (H : zH) : Prop := ∀ a j : Nat, (zK H a = 101 → -128 ≤ zA H a j ∧ zA H a j ≤ 127) ∧ (zK H a = 102 → 0 ≤ zA H a j ∧ zA H a j ≤ 1)
theorem zBy_w {H : zH} {a j : Nat} {x : Int} (hB : zBy H) (h : (zK H a ≠ 101 ∧ zK H a ≠ 102) ∨ (zK H a = 101 ∧ -128 ≤ x ∧ x ≤ 127) ∨ (zK H a = 102 ∧ 0 ≤ x ∧ x ≤ 1)) : zBy (zwA H a j x) := by
  intro b k
  rw [zK_wA, zA_wA]
  by_cases q : b = a ∧ k = j
  · rw [if_pos q, q.1]
    omega
  · rw [if_neg q]
    exact hB b k
theorem zBy_wR {H : zH} {a j : Nat} {r : Option Nat} (hB : zBy H) : zBy (zwR H a j r) := hB
theorem zBy_cp {H : zH} {a sp b dp n : Nat} (hB : zBy H) (h : zK H b ≠ 101 ∧ zK H b ≠ 102) : zBy (zcp H a sp b dp n) := by
  intro c k
  rw [zK_cp, zA_cp]
  by_cases q : c = b ∧ dp ≤ k ∧ k < dp + n
  · rw [if_pos q, q.1]
    exact ⟨fun r => absurd r h.1, fun r => absurd r h.2⟩
  · rw [if_neg q]
    exact hB c k
theorem zBy_nw {H : zH} {kd len : Nat} (hB : zBy H) : zBy (znw H kd len) := by
  intro c k
  show ((if c = H.1 then (kd, len) else H.2.1 c).1 = 101 → -128 ≤ (if c = H.1 then 0 else H.2.2.1 c k) ∧ (if c = H.1 then 0 else H.2.2.1 c k) ≤ 127) ∧ ((if c = H.1 then (kd, len) else H.2.1 c).1 = 102 → 0 ≤ (if c = H.1 then 0 else H.2.2.1 c k) ∧ (if c = H.1 then 0 else H.2.2.1 c k) ≤ 1)
  by_cases q : c = H.1
  · rw [if_pos q, if_pos q]
    omega
  · rw [if_neg q, if_neg q]
    exact hB c k
def zCy (C C' : zCt) : Prop := ∀ b1 b2 m args H (K K' : zQ), zBy H → (∀ r H', zBy H' → K r H' → K' r H') → C b1 b2 m args H K → C' b1 b2 m args H K'
theorem zcal_by {C C' : zCt} (hC : zCy C C') {b1 b2 m na rk ci : Nat} {vr : Bool} {k k' : List zV → zH → Prop} (hk : ∀ st H, zBy H → k st H → k' st H) {st : List zV} {H : zH} (hB : zBy H) (h : zcal C b1 b2 m na rk ci vr k st H) : zcal C' b1 b2 m na rk ci vr k' st H :=
  ⟨h.1, h.2.1, h.2.2.1, hC _ _ _ _ _ _ _ hB (fun _ _ hb hr => hk _ _ hb hr) h.2.2.2⟩
set_option maxHeartbeats 4000000 in
theorem zins_by {J J' : zJt} {C C' : zCt} {sc : Bool} {xs : Nat → Int} {L : Nat} {Q Q' : zQ} {k k' : zKo} (hJ : ∀ t bc bs ls st H, zBy H → J t bc bs ls st H → J' t bc bs ls st H) (hC : zCy C C') (hQ : ∀ r H, zBy H → Q r H → Q' r H) (hk : ∀ bc bs ls st H, zBy H → k bc bs ls st H → k' bc bs ls st H) (i : Instr) {bc bs : Nat} {ls : zLs} {st : List zV} {H : zH} (hB : zBy H) (h : zins J C sc xs L Q i k bc bs ls st H) : zins J' C' sc xs L Q' i k' bc bs ls st H := by
  cases i
  case invokeinterface n kk => exact zcal_by (k' := k' bc bs ls) hC (fun st H hb => hk bc bs ls st H hb) hB (show zcal C 0 0 (n % 512) (kk / 64) (kk / 16 % 4) (kk % 16) false (k bc bs ls) st H from h)
  case multianewarray n kk => exact zcal_by (k' := k' bc bs ls) hC (fun st H hb => hk bc bs ls st H hb) hB (show zcal C 0 0 (n % 512) (kk / 64) (kk / 16 % 4) (kk % 16) true (k bc bs ls) st H from h)
  case jsr n => exact ⟨h.1, h.2.1, zcal_by hC (fun _ _ hb => hk _ _ _ _ _ hb) hB h.2.2⟩
  case iaload =>
    simp only [zins] at h ⊢
    split at h
    · split at h
      next hs => rw [if_pos hs]; exact ⟨h.1, h.2.1, hk _ _ _ _ _ hB h.2.2⟩
      next hs => rw [if_neg hs]; exact ⟨h.1, h.2.1, h.2.2.1, hk _ _ _ _ _ hB h.2.2.2⟩
    · exact h.elim
  case arraylength =>
    simp only [zins] at h ⊢
    split at h
    · split at h
      next hs => rw [if_pos hs]; exact hk _ _ _ _ _ hB h
      next hs => rw [if_neg hs]; exact ⟨h.1, hk _ _ _ _ _ hB h.2⟩
    · exact h.elim
  case lookupswitch v a =>
    simp only [zins] at h ⊢
    split at h
    next hs => rw [if_pos hs]; exact hk _ _ _ _ _ hB h
    next hs => rw [if_neg hs]; exact hk _ _ _ _ _ hB h
  case iastore =>
    simp only [zins] at h ⊢
    split at h
    · exact ⟨h.1, h.2.1, h.2.2.1, hk _ _ _ _ _ (zBy_w hB (Or.inl (by rw [h.1]; omega))) h.2.2.2⟩
    · exact h.elim
  case lastore =>
    simp only [zins] at h ⊢
    split at h
    · exact ⟨h.1, h.2.1, h.2.2.1, hk _ _ _ _ _ (zBy_w hB (Or.inl (by rw [h.1]; omega))) h.2.2.2⟩
    · exact h.elim
  case bastore =>
    simp only [zins] at h ⊢
    split at h
    · exact ⟨h.1, h.2.1, h.2.2.1, hk _ _ _ _ _ (zBy_w hB (Or.inr h.1)) h.2.2.2⟩
    · exact h.elim
  case aastore =>
    simp only [zins] at h ⊢
    split at h
    · exact ⟨h.1, h.2.1, h.2.2.1, h.2.2.2.1, hk _ _ _ _ _ (zBy_wR hB) h.2.2.2.2⟩
    · exact h.elim
  case newarray t =>
    simp only [zins] at h ⊢
    split at h
    · exact ⟨h.1, h.2.1, h.2.2.1, h.2.2.2.1, hk _ _ _ _ _ (zBy_nw hB) h.2.2.2.2⟩
    · exact h.elim
  case anewarray t =>
    simp only [zins] at h ⊢
    split at h
    · exact ⟨h.1, h.2.1, h.2.2.1, h.2.2.2.1, hk _ _ _ _ _ (zBy_nw hB) h.2.2.2.2⟩
    · exact h.elim
  case new n => exact ⟨h.1, h.2.1, hk _ _ _ _ _ (zBy_nw hB) h.2.2⟩
  case putfield n =>
    simp only [zins] at h ⊢
    split at h
    · exact ⟨h.1, hk _ _ _ _ _ (zBy_w hB (Or.inl (by rw [h.1]; omega))) h.2⟩
    · exact h.elim
  case invokedynamic n =>
    simp only [zins] at h ⊢
    split at h
    · exact ⟨h.1, h.2.1, h.2.2.1, hk _ _ _ _ _ (zBy_w hB (Or.inl (by rw [h.1]; omega))) h.2.2.2⟩
    · exact h.elim
  case checkcast n =>
    simp only [zins] at h ⊢
    split at h
    · exact ⟨h.1, hk _ _ _ _ _ (zBy_w hB (Or.inl (by rw [h.1]; omega))) h.2⟩
    · exact h.elim
  case putstatic n =>
    simp only [zins] at h ⊢
    split at h
    · exact ⟨h.1, hk _ _ _ _ _ (zBy_wR hB) h.2⟩
    · exact h.elim
  case dstore n =>
    simp only [zins] at h ⊢
    split at h
    · exact ⟨h.1, h.2.1, h.2.2.1, h.2.2.2.1, h.2.2.2.2.1, h.2.2.2.2.2.1, h.2.2.2.2.2.2.1, h.2.2.2.2.2.2.2.1, hk _ _ _ _ _ (zBy_cp hB (by rw [h.2.1]; omega)) h.2.2.2.2.2.2.2.2⟩
    · exact h.elim
  case fstore n =>
    simp only [zins] at h ⊢
    split at h
    · exact ⟨h.1, h.2.1, h.2.2.1, h.2.2.2.1, h.2.2.2.2.1, h.2.2.2.2.2.1, h.2.2.2.2.2.2.1, h.2.2.2.2.2.2.2.1, hk _ _ _ _ _ (zBy_cp hB (by rw [h.2.1]; omega)) h.2.2.2.2.2.2.2.2⟩
    · exact h.elim
  all_goals first
    | exact h.elim
    | exact hk _ _ _ _ _ hB h
    | exact hJ _ _ _ _ _ _ hB h
    | (simp only [zins] at h ⊢
       split at h <;> first
         | exact h.elim
         | exact hQ _ _ hB h
         | exact ⟨h.1, h.2.1, hQ _ _ hB h.2.2⟩
         | exact hk _ _ _ _ _ hB h
         | exact hJ _ _ _ _ _ _ hB h
         | exact ⟨h.1, hk _ _ _ _ _ hB h.2⟩
         | exact ⟨fun q => hJ _ _ _ _ _ _ hB (h.1 q), fun q => hk _ _ _ _ _ hB (h.2 q)⟩
         | exact ⟨h.1, h.2.1, hk _ _ _ _ _ hB h.2.2⟩
         | exact ⟨h.1, h.2.1, h.2.2.1, hk _ _ _ _ _ hB h.2.2.2⟩
         | exact ⟨h.1, h.2.1, h.2.2.1, h.2.2.2.1, hk _ _ _ _ _ hB h.2.2.2.2⟩)
theorem zrun_by {J J' : zJt} {C C' : zCt} {sc : Bool} {xs : Nat → Int} {L : Nat} {Q Q' : zQ} (hJ : ∀ t bc bs ls st H, zBy H → J t bc bs ls st H → J' t bc bs ls st H) (hC : zCy C C') (hQ : ∀ r H, zBy H → Q r H → Q' r H) : ∀ (il : List Instr) (bc bs : Nat) (ls : zLs) (st : List zV) (H : zH), zBy H → zrun J C sc xs L Q il bc bs ls st H → zrun J' C' sc xs L Q' il bc bs ls st H
  | [], _, _, _, _, _, _, h => h
  | i :: il, _, _, _, _, _, hB, h => zins_by hJ hC hQ (zrun_by hJ hC hQ il) i hB h
theorem zEV_by {xs : Nat → Int} {L d bc bs : Nat} {sc : Bool} {m : Nat} {il : List Instr} {ls : zLs} {st : List zV} {H : zH} {Q : zQ} (hB : zBy H) (h : zEV xs L d bc bs sc m il ls st H Q) : zEV xs L d bc bs sc m il ls st H (fun r H' => Q r H' ∧ zBy H') := by
  refine h (fun d bc bs sc m il ls st H Q => zBy H → zEV xs L d bc bs sc m il ls st H (fun r H' => Q r H' ∧ zBy H')) ?_ hB
  intro d bc bs sc m il ls st H Q hF hB
  refine zEV_fold ?_
  refine zrun_by (fun t bc bs ls st H hb hX => hX hb) (fun b1 b2 m args H K K' hb hK hc => ?_) (fun r H hb hr => ⟨hr, hb⟩) _ _ _ _ _ _ hB hF
  obtain ⟨h1, h2, Q1, h3, h4⟩ := hc
  exact ⟨h1, h2, _, h3 hb, fun r H' hr => hK r H' hr.2 (h4 r H' hr.1)⟩
theorem zEm_by {xs : Nat → Int} {L d b1 b2 m : Nat} {args : List zV} {H : zH} {Q : zQ} (hB : zBy H) (h : zEm xs L d b1 b2 m args H (fun r H' => zBy H' → Q r H')) : zEm xs L d b1 b2 m args H Q := zEm_post (fun _ _ hr => hr.1 hr.2) (show zEm xs L d b1 b2 m args H (fun r H' => (zBy H' → Q r H') ∧ zBy H') from ⟨h.1, zEV_by hB h.2⟩)
