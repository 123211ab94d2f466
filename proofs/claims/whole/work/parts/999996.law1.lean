/-! ===== kinds stay, whatever runs ===== -/
def yKp (Hb H : zH) : Prop := zS Hb ≤ zS H ∧ ∀ a : Nat, a < zS Hb → H.2.1 a = Hb.2.1 a
theorem yKp_rf (H : zH) : yKp H H := ⟨Nat.le_refl _, fun _ _ => rfl⟩
theorem yKp_w {Hb H : zH} {a j : Nat} {x : Int} (hB : yKp Hb H) (_h : (zK H a ≠ 101 ∧ zK H a ≠ 102) ∨ (zK H a = 101 ∧ -128 ≤ x ∧ x ≤ 127) ∨ (zK H a = 102 ∧ 0 ≤ x ∧ x ≤ 1)) : yKp Hb (zwA H a j x) := hB
theorem yKp_wR {Hb H : zH} {a j : Nat} {r : Option Nat} (hB : yKp Hb H) : yKp Hb (zwR H a j r) := hB
theorem yKp_cp {Hb H : zH} {a sp b dp n : Nat} (hB : yKp Hb H) (_h : zK H b ≠ 101 ∧ zK H b ≠ 102) : yKp Hb (zcp H a sp b dp n) := hB
theorem yKp_nw {Hb H : zH} {kd len : Nat} (hB : yKp Hb H) : yKp Hb (znw H kd len) := ⟨by rw [zS_nw]; have := hB.1; omega, fun a ha => by rw [zP_nw, if_neg (by have := hB.1; omega)]; exact hB.2 a ha⟩
def zCz (Hb : zH) (C C' : zCt) : Prop := ∀ b1 b2 m args H (K K' : zQ), yKp Hb H → (∀ r H', yKp Hb H' → K r H' → K' r H') → C b1 b2 m args H K → C' b1 b2 m args H K'
theorem zcal_kp {Hb : zH} {C C' : zCt} (hC : zCz Hb C C') {b1 b2 m na rk ci : Nat} {vr : Bool} {k k' : List zV → zH → Prop} (hk : ∀ st H, yKp Hb H → k st H → k' st H) {st : List zV} {H : zH} (hB : yKp Hb H) (h : zcal C b1 b2 m na rk ci vr k st H) : zcal C' b1 b2 m na rk ci vr k' st H :=
  ⟨h.1, h.2.1, h.2.2.1, hC _ _ _ _ _ _ _ hB (fun _ _ hb hr => hk _ _ hb hr) h.2.2.2⟩
set_option maxHeartbeats 4000000 in
theorem zins_kp {Hb : zH} {J J' : zJt} {C C' : zCt} {sc : Bool} {xs : Nat → Int} {L : Nat} {Q Q' : zQ} {k k' : zKo} (hJ : ∀ t bc bs ls st H, yKp Hb H → J t bc bs ls st H → J' t bc bs ls st H) (hC : zCz Hb C C') (hQ : ∀ r H, yKp Hb H → Q r H → Q' r H) (hk : ∀ bc bs ls st H, yKp Hb H → k bc bs ls st H → k' bc bs ls st H) (i : Instr) {bc bs : Nat} {ls : zLs} {st : List zV} {H : zH} (hB : yKp Hb H) (h : zins J C sc xs L Q i k bc bs ls st H) : zins J' C' sc xs L Q' i k' bc bs ls st H := by
  cases i
  case invokeinterface n kk => exact zcal_kp (k' := k' bc bs ls) hC (fun st H hb => hk bc bs ls st H hb) hB (show zcal C 0 0 (n % 512) (kk / 64) (kk / 16 % 4) (kk % 16) false (k bc bs ls) st H from h)
  case multianewarray n kk => exact zcal_kp (k' := k' bc bs ls) hC (fun st H hb => hk bc bs ls st H hb) hB (show zcal C 0 0 (n % 512) (kk / 64) (kk / 16 % 4) (kk % 16) true (k bc bs ls) st H from h)
  case jsr n => exact ⟨h.1, h.2.1, zcal_kp hC (fun _ _ hb => hk _ _ _ _ _ hb) hB h.2.2⟩
  case iaload =>
    simp only [zins] at h ⊢
    split at h
    · split at h
      next hs => rw [if_pos hs]; exact ⟨h.1, h.2.1, hk _ _ _ _ _ hB h.2.2⟩
      next hs => rw [if_neg hs]; exact ⟨h.1, h.2.1, h.2.2.1, hk _ _ _ _ _ hB h.2.2.2⟩
    · exact h.elim
  case arraylength =>
    simp only [zins] at h ⊢
    split at h
    · split at h
      next hs => rw [if_pos hs]; exact hk _ _ _ _ _ hB h
      next hs => rw [if_neg hs]; exact ⟨h.1, hk _ _ _ _ _ hB h.2⟩
    · exact h.elim
  case lookupswitch v a =>
    simp only [zins] at h ⊢
    split at h
    next hs => rw [if_pos hs]; exact hk _ _ _ _ _ hB h
    next hs => rw [if_neg hs]; exact hk _ _ _ _ _ hB h
  case iastore =>
    simp only [zins] at h ⊢
    split at h
    · exact ⟨h.1, h.2.1, h.2.2.1, hk _ _ _ _ _ (yKp_w hB (Or.inl (by rw [h.1]; omega))) h.2.2.2⟩
    · exact h.elim
  case lastore =>
    simp only [zins] at h ⊢
    split at h
    · exact ⟨h.1, h.2.1, h.2.2.1, hk _ _ _ _ _ (yKp_w hB (Or.inl (by rw [h.1]; omega))) h.2.2.2⟩
    · exact h.elim
  case bastore =>
    simp only [zins] at h ⊢
    split at h
    · exact ⟨h.1, h.2.1, h.2.2.1, hk _ _ _ _ _ (yKp_w hB (Or.inr h.1)) h.2.2.2⟩
    · exact h.elim
  case aastore =>
    simp only [zins] at h ⊢
    split at h
    · exact ⟨h.1, h.2.1, h.2.2.1, h.2.2.2.1, hk _ _ _ _ _ (yKp_wR hB) h.2.2.2.2⟩
    · exact h.elim
  case newarray t =>
    simp only [zins] at h ⊢
    split at h
    · exact ⟨h.1, h.2.1, h.2.2.1, h.2.2.2.1, hk _ _ _ _ _ (yKp_nw hB) h.2.2.2.2⟩
    · exact h.elim
  case anewarray t =>
    simp only [zins] at h ⊢
    split at h
    · exact ⟨h.1, h.2.1, h.2.2.1, h.2.2.2.1, hk _ _ _ _ _ (yKp_nw hB) h.2.2.2.2⟩
    · exact h.elim
  case new n => exact ⟨h.1, h.2.1, hk _ _ _ _ _ (yKp_nw hB) h.2.2⟩
  case putfield n =>
    simp only [zins] at h ⊢
    split at h
    · exact ⟨h.1, hk _ _ _ _ _ (yKp_w hB (Or.inl (by rw [h.1]; omega))) h.2⟩
    · exact h.elim
  case invokedynamic n =>
    simp only [zins] at h ⊢
    split at h
    · exact ⟨h.1, h.2.1, h.2.2.1, hk _ _ _ _ _ (yKp_w hB (Or.inl (by rw [h.1]; omega))) h.2.2.2⟩
    · exact h.elim
  case checkcast n =>
    simp only [zins] at h ⊢
    split at h
    · exact ⟨h.1, hk _ _ _ _ _ (yKp_w hB (Or.inl (by rw [h.1]; omega))) h.2⟩
    · exact h.elim
  case putstatic n =>
    simp only [zins] at h ⊢
    split at h
    · exact ⟨h.1, hk _ _ _ _ _ (yKp_wR hB) h.2⟩
    · exact h.elim
  case dstore n =>
    simp only [zins] at h ⊢
    split at h
    · exact ⟨h.1, h.2.1, h.2.2.1, h.2.2.2.1, h.2.2.2.2.1, h.2.2.2.2.2.1, h.2.2.2.2.2.2.1, h.2.2.2.2.2.2.2.1, hk _ _ _ _ _ (yKp_cp hB (by rw [h.2.1]; omega)) h.2.2.2.2.2.2.2.2⟩
    · exact h.elim
  case fstore n =>
    simp only [zins] at h ⊢
    split at h
    · exact ⟨h.1, h.2.1, h.2.2.1, h.2.2.2.1, h.2.2.2.2.1, h.2.2.2.2.2.1, h.2.2.2.2.2.2.1, h.2.2.2.2.2.2.2.1, hk _ _ _ _ _ (yKp_cp hB (by rw [h.2.1]; omega)) h.2.2.2.2.2.2.2.2⟩
    · exact h.elim
  all_goals first
    | exact h.elim
    | exact hk _ _ _ _ _ hB h
    | exact hJ _ _ _ _ _ _ hB h
    | (simp only [zins] at h ⊢
       split at h <;> first
         | exact h.elim
         | exact hQ _ _ hB h
         | exact ⟨h.1, h.2.1, hQ _ _ hB h.2.2⟩
         | exact hk _ _ _ _ _ hB h
         | exact hJ _ _ _ _ _ _ hB h
         | exact ⟨h.1, hk _ _ _ _ _ hB h.2⟩
         | exact ⟨fun q => hJ _ _ _ _ _ _ hB (h.1 q), fun q => hk _ _ _ _ _ hB (h.2 q)⟩
         | exact ⟨h.1, h.2.1, hk _ _ _ _ _ hB h.2.2⟩
         | exact ⟨h.1, h.2.1, h.2.2.1, hk _ _ _ _ _ hB h.2.2.2⟩
         | exact ⟨h.1, h.2.1, h.2.2.1, h.2.2.2.1, hk _ _ _ _ _ hB h.2.2.2.2⟩)
theorem zrun_kp {Hb : zH} {J J' : zJt} {C C' : zCt} {sc : Bool} {xs : Nat → Int} {L : Nat} {Q Q' : zQ} (hJ : ∀ t bc bs ls st H, yKp Hb H → J t bc bs ls st H → J' t bc bs ls st H) (hC : zCz Hb C C') (hQ : ∀ r H, yKp Hb H → Q r H → Q' r H) : ∀ (il : List Instr) (bc bs : Nat) (ls : zLs) (st : List zV) (H : zH), yKp Hb H → zrun J C sc xs L Q il bc bs ls st H → zrun J' C' sc xs L Q' il bc bs ls st H
  | [], _, _, _, _, _, _, h => h
  | i :: il, _, _, _, _, _, hB, h => zins_kp hJ hC hQ (zrun_kp hJ hC hQ il) i hB h
theorem zEV_kp {Hb : zH} {xs : Nat → Int} {L d bc bs : Nat} {sc : Bool} {m : Nat} {il : List Instr} {ls : zLs} {st : List zV} {H : zH} {Q : zQ} (hB : yKp Hb H) (h : zEV xs L d bc bs sc m il ls st H Q) : zEV xs L d bc bs sc m il ls st H (fun r H' => Q r H' ∧ yKp Hb H') := by
  refine h (fun d bc bs sc m il ls st H Q => yKp Hb H → zEV xs L d bc bs sc m il ls st H (fun r H' => Q r H' ∧ yKp Hb H')) ?_ hB
  intro d bc bs sc m il ls st H Q hF hB
  refine zEV_fold ?_
  refine zrun_kp (fun t bc bs ls st H hb hX => hX hb) (fun b1 b2 m args H K K' hb hK hc => ?_) (fun r H hb hr => ⟨hr, hb⟩) _ _ _ _ _ _ hB hF
  obtain ⟨h1, h2, Q1, h3, h4⟩ := hc
  exact ⟨h1, h2, _, h3 hb, fun r H' hr => hK r H' hr.2 (h4 r H' hr.1)⟩
theorem zEm_kp {Hb : zH} {xs : Nat → Int} {L d b1 b2 m : Nat} {args : List zV} {H : zH} {Q : zQ} (hB : yKp Hb H) (h : zEm xs L d b1 b2 m args H (fun r H' => yKp Hb H' → Q r H')) : zEm xs L d b1 b2 m args H Q := zEm_post (fun _ _ hr => hr.1 hr.2) (show zEm xs L d b1 b2 m args H (fun r H' => (yKp Hb H' → Q r H') ∧ yKp Hb H') from ⟨h.1, zEV_kp hB h.2⟩)
