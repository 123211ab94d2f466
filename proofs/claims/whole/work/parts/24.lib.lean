/-! ===== several blocks at once, up to cuts ===== -/
def zEt (xs : Nat → Int) (L d bc bs : Nat) (sc : Bool) (m t : Nat) (ls : zLs) (st : List zV) (H : zH) (Q : zQ) : Prop := zEV xs L d bc bs sc m (zblk m t) ls st H Q
theorem zst_0 : (([] : List zV).length ≤ 4) = True := by simp
theorem zst_1 (a : zV) : ([a].length ≤ 4) = True := by simp
theorem zst_2 (a b : zV) : ([a, b].length ≤ 4) = True := by simp
theorem zst_3 (a b c : zV) : ([a, b, c].length ≤ 4) = True := by simp
theorem zst_4 (a b c d : zV) : ([a, b, c, d].length ≤ 4) = True := by simp
def zcut : List Nat → Nat → Bool
  | [], _ => false
  | a :: l, t => if t = a then true else zcut l t
theorem zct_0 (t : Nat) : zcut [] t = false := rfl
theorem zct_s (a : Nat) (l : List Nat) (t : Nat) : zcut (a :: l) t = if t = a then true else zcut l t := rfl
def zgn (xs : Nat → Int) (L d : Nat) (sc : Bool) (m : Nat) (Q : zQ) (cuts : List Nat) : Nat → zJt
  | 0 => fun t bc bs ls st H => zEt xs L d bc bs sc m t ls st H Q
  | n + 1 => fun t bc bs ls st H => if zcut cuts t = true then zEt xs L d bc bs sc m t ls st H Q else zrun (zgn xs L d sc m Q cuts n) (zC xs L d) sc xs L Q (zblk m t) bc bs ls st H
theorem zgn_0 (xs : Nat → Int) (L d : Nat) (sc : Bool) (m : Nat) (Q : zQ) (cuts : List Nat) (t bc bs : Nat) (ls : zLs) (st : List zV) (H : zH) : zgn xs L d sc m Q cuts 0 t bc bs ls st H = zEt xs L d bc bs sc m t ls st H Q := rfl
theorem zgn_s (xs : Nat → Int) (L d : Nat) (sc : Bool) (m : Nat) (Q : zQ) (cuts : List Nat) (n t bc bs : Nat) (ls : zLs) (st : List zV) (H : zH) : zgn xs L d sc m Q cuts (n + 1) t bc bs ls st H = if zcut cuts t = true then zEt xs L d bc bs sc m t ls st H Q else zrun (zgn xs L d sc m Q cuts n) (zC xs L d) sc xs L Q (zblk m t) bc bs ls st H := rfl
theorem zC_le {xs : Nat → Int} {L d : Nat} : zCle (zCa xs L d) (zCa xs L d) := fun b1 b2 m args H K K' hK h => ⟨h.1, h.2.1, h.2.2.choose, h.2.2.choose_spec.1, fun r H' hr => hK r H' (h.2.2.choose_spec.2 r H' hr)⟩
theorem zEV_post {xs : Nat → Int} {L d bc bs : Nat} {sc : Bool} {m : Nat} {il : List Instr} {ls : zLs} {st : List zV} {H : zH} {Q Q' : zQ} (hQ : ∀ r H, Q r H → Q' r H) (h : zEV xs L d bc bs sc m il ls st H Q) : zEV xs L d bc bs sc m il ls st H Q' := by
  refine h (fun d bc bs sc m il ls st H Q => ∀ Q', (∀ r H, Q r H → Q' r H) → zEV xs L d bc bs sc m il ls st H Q') ?_ Q' hQ
  intro d bc bs sc m il ls st H Q hF Q' hQ
  let C1 : zCt := fun b1 b2 m' args H K => 1 ≤ d ∧ (zlo args).length ≤ zml m' ∧ ∃ Q1 : zQ, zEV xs L (d - 1) b1 b2 false m' (zblk m' 0) (zent m' args) [] H Q1 ∧ ∀ r H', Q1 r H' → K r H'
  let J0 : zJt := fun t bc bs ls st H => ∀ Q' : zQ, (∀ (r : Int) (H : zH), Q r H → Q' r H) → zEV xs L d bc bs sc m (zblk m t) ls st H Q'
  have h1 : zrun J0 C1 sc xs L Q il bc bs ls st H := by
    refine zrun_mono (J' := J0) (C' := C1) (fun _ _ _ _ _ _ h => h) (fun b1 b2 m args H K K' hK hc => ?_) _ _ _ _ _ _ hF
    obtain ⟨h1, h2, Q1, h3, h4⟩ := hc
    exact ⟨h1, h2, Q1, h3 Q1 (fun _ _ h => h), fun r H' hr => hK r H' (h4 r H' hr)⟩
  refine zEV_fold ?_
  refine zrun_post (J := J0) (C := C1) hQ (fun t bc bs ls st H hX => hX Q' hQ) (fun b1 b2 m args H K K' hK hc => ?_) _ _ _ _ _ _ h1
  obtain ⟨h1, h2, Q1, h3, h4⟩ := hc
  exact ⟨h1, h2, Q1, h3, fun r H' hr => hK r H' (h4 r H' hr)⟩
theorem zEm_post {xs : Nat → Int} {L d b1 b2 m : Nat} {args : List zV} {H : zH} {Q Q' : zQ} (hQ : ∀ r H, Q r H → Q' r H) (h : zEm xs L d b1 b2 m args H Q) : zEm xs L d b1 b2 m args H Q' := ⟨h.1, zEV_post hQ h.2⟩
theorem zCle_C {xs : Nat → Int} {L d : Nat} : zCle (zC xs L d) (zC xs L d) := fun b1 b2 m args H K K' hK h => ⟨h.1, zEm_post hK h.2⟩
theorem zgn_ok {xs : Nat → Int} {L d : Nat} {sc : Bool} {m : Nat} {Q : zQ} {cuts : List Nat} : ∀ (n t bc bs : Nat) (ls : zLs) (st : List zV) (H : zH), zgn xs L d sc m Q cuts n t bc bs ls st H → zEV xs L d bc bs sc m (zblk m t) ls st H Q
  | 0, _, _, _, _, _, _, h => h
  | n + 1, t, bc, bs, ls, st, H, h => by
    rw [zgn_s] at h
    split at h
    · exact h
    · exact zev (zrun_mono (zgn_ok n) zCle_C _ _ _ _ _ _ h)
/-- from a block on, n jumps far, up to the cuts -/
theorem zgo_at {xs : Nat → Int} {L d bc bs : Nat} {sc : Bool} {m t : Nat} {ls : zLs} {st : List zV} {H : zH} {Q : zQ} (cuts : List Nat) (n : Nat) (h : zrun (zgn xs L d sc m Q cuts n) (zC xs L d) sc xs L Q (zblk m t) bc bs ls st H) : zEt xs L d bc bs sc m t ls st H Q := zev (zrun_mono (zgn_ok n) zCle_C _ _ _ _ _ _ h)
