/-! ===== running the interpreter ===== -/
def zCle (C C' : zCt) : Prop := ∀ b1 b2 m args H (K K' : zQ), (∀ r H', K r H' → K' r H') → C b1 b2 m args H K → C' b1 b2 m args H K'
theorem zcal_mono {C C' : zCt} (hC : zCle C C') {b1 b2 m na rk ci : Nat} {vr : Bool} {k k' : List zV → zH → Prop} (hk : ∀ st H, k st H → k' st H) {st : List zV} {H : zH} (h : zcal C b1 b2 m na rk ci vr k st H) : zcal C' b1 b2 m na rk ci vr k' st H :=
  ⟨h.1, h.2.1, h.2.2.1, hC _ _ _ _ _ _ _ (fun _ _ hr => hk _ _ hr) h.2.2.2⟩
set_option maxHeartbeats 4000000 in
theorem zins_mono {J J' : zJt} {C C' : zCt} {sc : Bool} {xs : Nat → Int} {L : Nat} {Q : zQ} {k k' : zKo} (hJ : ∀ t bc bs ls st H, J t bc bs ls st H → J' t bc bs ls st H) (hC : zCle C C') (hk : ∀ bc bs ls st H, k bc bs ls st H → k' bc bs ls st H) (i : Instr) {bc bs : Nat} {ls : zLs} {st : List zV} {H : zH} (h : zins J C sc xs L Q i k bc bs ls st H) : zins J' C' sc xs L Q i k' bc bs ls st H := by
  cases i
  case invokeinterface n kk => exact zcal_mono (k' := k' bc bs ls) hC (fun st H => hk bc bs ls st H) (show zcal C 0 0 (n % 512) (kk / 64) (kk / 16 % 4) (kk % 16) false (k bc bs ls) st H from h)
  case multianewarray n kk => exact zcal_mono (k' := k' bc bs ls) hC (fun st H => hk bc bs ls st H) (show zcal C 0 0 (n % 512) (kk / 64) (kk / 16 % 4) (kk % 16) true (k bc bs ls) st H from h)
  case jsr n => exact ⟨h.1, h.2.1, zcal_mono hC (fun _ _ => hk _ _ _ _ _) h.2.2⟩
  case iaload =>
    simp only [zins] at h ⊢
    split at h
    · split at h
      next hs => rw [if_pos hs]; exact ⟨h.1, h.2.1, hk _ _ _ _ _ h.2.2⟩
      next hs => rw [if_neg hs]; exact ⟨h.1, h.2.1, h.2.2.1, hk _ _ _ _ _ h.2.2.2⟩
    · exact h.elim
  case arraylength =>
    simp only [zins] at h ⊢
    split at h
    · split at h
      next hs => rw [if_pos hs]; exact hk _ _ _ _ _ h
      next hs => rw [if_neg hs]; exact ⟨h.1, hk _ _ _ _ _ h.2⟩
    · exact h.elim
  case lookupswitch v a =>
    simp only [zins] at h ⊢
    split at h
    next hs => rw [if_pos hs]; exact hk _ _ _ _ _ h
    next hs => rw [if_neg hs]; exact hk _ _ _ _ _ h
  all_goals first
    | exact h.elim
    | exact hk _ _ _ _ _ h
    | exact hJ _ _ _ _ _ _ h
    | exact ⟨h.1, h.2.1, hk _ _ _ _ _ h.2.2⟩
    | (simp only [zins] at h ⊢
       split at h <;> first
         | exact h.elim
         | exact hk _ _ _ _ _ h
         | exact hJ _ _ _ _ _ _ h
         | exact h
         | exact ⟨h.1, hk _ _ _ _ _ h.2⟩
         | exact ⟨fun q => hJ _ _ _ _ _ _ (h.1 q), fun q => hk _ _ _ _ _ (h.2 q)⟩
         | exact ⟨h.1, h.2.1, hk _ _ _ _ _ h.2.2⟩
         | exact ⟨h.1, h.2.1, h.2.2.1, hk _ _ _ _ _ h.2.2.2⟩
         | exact ⟨h.1, h.2.1, h.2.2.1, h.2.2.2.1, hk _ _ _ _ _ h.2.2.2.2⟩
         | exact ⟨h.1, h.2.1, h.2.2.1, h.2.2.2.1, h.2.2.2.2.1, h.2.2.2.2.2.1, h.2.2.2.2.2.2.1, h.2.2.2.2.2.2.2.1, hk _ _ _ _ _ h.2.2.2.2.2.2.2.2⟩)
theorem zrun_mono {J J' : zJt} {C C' : zCt} {sc : Bool} {xs : Nat → Int} {L : Nat} {Q : zQ} (hJ : ∀ t bc bs ls st H, J t bc bs ls st H → J' t bc bs ls st H) (hC : zCle C C') : ∀ (il : List Instr) (bc bs : Nat) (ls : zLs) (st : List zV) (H : zH), zrun J C sc xs L Q il bc bs ls st H → zrun J' C' sc xs L Q il bc bs ls st H
  | [], _, _, _, _, _, h => h
  | i :: il, _, _, _, _, _, h => zins_mono hJ hC (zrun_mono hJ hC il) i h
theorem zF_mono {xs : Nat → Int} {L : Nat} {X Y : zE} (h : ∀ d bc bs sc m il ls st H Q, X d bc bs sc m il ls st H Q → Y d bc bs sc m il ls st H Q) {d bc bs : Nat} {sc : Bool} {m : Nat} {il : List Instr} {ls : zLs} {st : List zV} {H : zH} {Q : zQ} (hF : zF xs L X d bc bs sc m il ls st H Q) : zF xs L Y d bc bs sc m il ls st H Q := by
  refine zrun_mono (fun t bc bs ls st H hX => h _ _ _ _ _ _ _ _ _ _ hX) (fun b1 b2 m args H K K' hK hc => ?_) _ _ _ _ _ _ hF
  obtain ⟨h1, h2, Q1, h3, h4⟩ := hc
  exact ⟨h1, h2, Q1, h _ _ _ _ _ _ _ _ _ _ h3, fun r H' hr => hK r H' (h4 r H' hr)⟩
theorem zEV_fold {xs : Nat → Int} {L d bc bs : Nat} {sc : Bool} {m : Nat} {il : List Instr} {ls : zLs} {st : List zV} {H : zH} {Q : zQ} (h : zF xs L (zEV xs L) d bc bs sc m il ls st H Q) : zEV xs L d bc bs sc m il ls st H Q :=
  fun X hX => hX _ _ _ _ _ _ _ _ _ _ (zF_mono (fun _ _ _ _ _ _ _ _ _ _ hE => hE X hX) h)
/-- ONE BLOCK: jumps go on as zEV, calls as zEm -/
abbrev zJ (xs : Nat → Int) (L d : Nat) (sc : Bool) (m : Nat) (Q : zQ) : zJt := fun t bc bs ls st H => zEV xs L d bc bs sc m (zblk m t) ls st H Q
abbrev zC (xs : Nat → Int) (L d : Nat) : zCt := fun b1 b2 m' args H K => 1 ≤ d ∧ zEm xs L (d - 1) b1 b2 m' args H K
theorem zev {xs : Nat → Int} {L d bc bs : Nat} {sc : Bool} {m : Nat} {il : List Instr} {ls : zLs} {st : List zV} {H : zH} {Q : zQ} (h : zrun (zJ xs L d sc m Q) (zC xs L d) sc xs L Q il bc bs ls st H) : zEV xs L d bc bs sc m il ls st H Q := by
  refine zEV_fold (zrun_mono (fun _ _ _ _ _ _ h => h) (fun b1 b2 m args H K K' hK hc => ?_) _ _ _ _ _ _ h)
  exact ⟨hc.1, hc.2.1, K, hc.2.2, hK⟩
theorem zem {xs : Nat → Int} {L d b1 b2 m : Nat} {args : List zV} {H : zH} {Q : zQ} (hl : (zlo args).length ≤ zml m) (h : zEV xs L d b1 b2 false m (zblk m 0) (zent m args) [] H Q) : zEm xs L d b1 b2 m args H Q := ⟨hl, h⟩
-- a weaker end
theorem zrun_post {J J' : zJt} {C : zCt} {sc : Bool} {xs : Nat → Int} {L : Nat} {Q Q' : zQ} (hQ : ∀ r H, Q r H → Q' r H) (hJ : ∀ t bc bs ls st H, J t bc bs ls st H → J' t bc bs ls st H) (hC : zCle C C) : ∀ (il : List Instr) (bc bs : Nat) (ls : zLs) (st : List zV) (H : zH), zrun J C sc xs L Q il bc bs ls st H → zrun J' C sc xs L Q' il bc bs ls st H
  | [], _, _, _, _, _, h => h
  | i :: il, bc, bs, ls, st, H, h => by
    have h1 : zins J' C sc xs L Q i (zrun J' C sc xs L Q' il) bc bs ls st H := zins_mono hJ hC (zrun_post hQ hJ hC il) i h
    cases i
    case ireturn =>
      simp only [zrun, zins] at h1 ⊢
      split at h1
      · exact hQ _ _ h1
      · exact h1.elim
    case areturn =>
      simp only [zrun, zins] at h1 ⊢
      split at h1
      · exact ⟨h1.1, h1.2.1, hQ _ _ h1.2.2⟩
      · exact h1.elim
    case lreturn =>
      simp only [zrun, zins] at h1 ⊢
      split at h1
      · exact hQ _ _ h1
      · exact h1.elim
    case return_ =>
      simp only [zrun, zins] at h1 ⊢
      split at h1
      · exact hQ _ _ h1
      · exact h1.elim
    all_goals exact h1
