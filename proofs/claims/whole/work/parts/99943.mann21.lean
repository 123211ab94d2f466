/-- a leaf at any level -/
def zlfI : (m : Nat) → Nat → zIt m
  | 0 => fun x => x
  | _ + 1 => fun x => Sum.inl x
theorem zlfI_f (m x : Nat) : zfI m (zlfI m x) = [x] := by
  cases m with
  | zero => rfl
  | succ m => rfl
theorem zlfI_o {P : Nat → Prop} (m : Nat) {x : Nat} (h : P x) : zokI P m (zlfI m x) := by
  cases m with
  | zero => exact h
  | succ m => exact h
theorem zlfI_r {H : zH} {o p : Nat} {t : Nat → Int} {w : Nat × (Nat → Nat × Nat)} (m : Nat) {x i l : Nat} (h : zRlf H o t w x i) : zRi H o p t w m (zlfI m x) i l (i + 1) l := by
  cases m with
  | zero => exact ⟨h, rfl, rfl⟩
  | succ m => exact ⟨h, rfl, rfl⟩
