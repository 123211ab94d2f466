/-! ===== second library ===== -/
theorem zfa (a b : Nat) : (a : Int) + (b : Int) = ((a + b : Nat) : Int) := (Int.natCast_add a b).symm
theorem zfmm (a b : Nat) : (a : Int) * (b : Int) = ((a * b : Nat) : Int) := (Int.natCast_mul a b).symm
theorem zfa_1 (a : Nat) : (a : Int) + 1 = ((a + 1 : Nat) : Int) := by omega
theorem zfb_1 (a : Nat) : 1 + (a : Int) = ((1 + a : Nat) : Int) := by omega
theorem zfa_2 (a : Nat) : (a : Int) + 2 = ((a + 2 : Nat) : Int) := by omega
theorem zfb_2 (a : Nat) : 2 + (a : Int) = ((2 + a : Nat) : Int) := by omega
theorem zfa_3 (a : Nat) : (a : Int) + 3 = ((a + 3 : Nat) : Int) := by omega
theorem zfb_3 (a : Nat) : 3 + (a : Int) = ((3 + a : Nat) : Int) := by omega
theorem zfa_4 (a : Nat) : (a : Int) + 4 = ((a + 4 : Nat) : Int) := by omega
theorem zfb_4 (a : Nat) : 4 + (a : Int) = ((4 + a : Nat) : Int) := by omega
theorem zfa_5 (a : Nat) : (a : Int) + 5 = ((a + 5 : Nat) : Int) := by omega
theorem zfb_5 (a : Nat) : 5 + (a : Int) = ((5 + a : Nat) : Int) := by omega
theorem zfa_6 (a : Nat) : (a : Int) + 6 = ((a + 6 : Nat) : Int) := by omega
theorem zfb_6 (a : Nat) : 6 + (a : Int) = ((6 + a : Nat) : Int) := by omega
theorem zfa_7 (a : Nat) : (a : Int) + 7 = ((a + 7 : Nat) : Int) := by omega
theorem zfb_7 (a : Nat) : 7 + (a : Int) = ((7 + a : Nat) : Int) := by omega
theorem zfa_8 (a : Nat) : (a : Int) + 8 = ((a + 8 : Nat) : Int) := by omega
theorem zfb_8 (a : Nat) : 8 + (a : Int) = ((8 + a : Nat) : Int) := by omega
theorem zfa_9 (a : Nat) : (a : Int) + 9 = ((a + 9 : Nat) : Int) := by omega
theorem zfb_9 (a : Nat) : 9 + (a : Int) = ((9 + a : Nat) : Int) := by omega
theorem zfa_10 (a : Nat) : (a : Int) + 10 = ((a + 10 : Nat) : Int) := by omega
theorem zfb_10 (a : Nat) : 10 + (a : Int) = ((10 + a : Nat) : Int) := by omega
theorem zfa_12 (a : Nat) : (a : Int) + 12 = ((a + 12 : Nat) : Int) := by omega
theorem zfb_12 (a : Nat) : 12 + (a : Int) = ((12 + a : Nat) : Int) := by omega
theorem zfa_20 (a : Nat) : (a : Int) + 20 = ((a + 20 : Nat) : Int) := by omega
theorem zfb_20 (a : Nat) : 20 + (a : Int) = ((20 + a : Nat) : Int) := by omega
theorem zfa_21 (a : Nat) : (a : Int) + 21 = ((a + 21 : Nat) : Int) := by omega
theorem zfb_21 (a : Nat) : 21 + (a : Int) = ((21 + a : Nat) : Int) := by omega
theorem zfa_30 (a : Nat) : (a : Int) + 30 = ((a + 30 : Nat) : Int) := by omega
theorem zfb_30 (a : Nat) : 30 + (a : Int) = ((30 + a : Nat) : Int) := by omega
theorem zfa_48 (a : Nat) : (a : Int) + 48 = ((a + 48 : Nat) : Int) := by omega
theorem zfb_48 (a : Nat) : 48 + (a : Int) = ((48 + a : Nat) : Int) := by omega
theorem zfa_60 (a : Nat) : (a : Int) + 60 = ((a + 60 : Nat) : Int) := by omega
theorem zfb_60 (a : Nat) : 60 + (a : Int) = ((60 + a : Nat) : Int) := by omega
theorem zfa_61 (a : Nat) : (a : Int) + 61 = ((a + 61 : Nat) : Int) := by omega
theorem zfb_61 (a : Nat) : 61 + (a : Int) = ((61 + a : Nat) : Int) := by omega
theorem zfa_65 (a : Nat) : (a : Int) + 65 = ((a + 65 : Nat) : Int) := by omega
theorem zfb_65 (a : Nat) : 65 + (a : Int) = ((65 + a : Nat) : Int) := by omega
theorem zfa_97 (a : Nat) : (a : Int) + 97 = ((a + 97 : Nat) : Int) := by omega
theorem zfb_97 (a : Nat) : 97 + (a : Int) = ((97 + a : Nat) : Int) := by omega
theorem zfa_100 (a : Nat) : (a : Int) + 100 = ((a + 100 : Nat) : Int) := by omega
theorem zfb_100 (a : Nat) : 100 + (a : Int) = ((100 + a : Nat) : Int) := by omega
theorem zfa_120 (a : Nat) : (a : Int) + 120 = ((a + 120 : Nat) : Int) := by omega
theorem zfb_120 (a : Nat) : 120 + (a : Int) = ((120 + a : Nat) : Int) := by omega
theorem zfa_124 (a : Nat) : (a : Int) + 124 = ((a + 124 : Nat) : Int) := by omega
theorem zfb_124 (a : Nat) : 124 + (a : Int) = ((124 + a : Nat) : Int) := by omega
theorem zfa_500 (a : Nat) : (a : Int) + 500 = ((a + 500 : Nat) : Int) := by omega
theorem zfb_500 (a : Nat) : 500 + (a : Int) = ((500 + a : Nat) : Int) := by omega
theorem zfa_792 (a : Nat) : (a : Int) + 792 = ((a + 792 : Nat) : Int) := by omega
theorem zfb_792 (a : Nat) : 792 + (a : Int) = ((792 + a : Nat) : Int) := by omega
theorem zfa_2989 (a : Nat) : (a : Int) + 2989 = ((a + 2989 : Nat) : Int) := by omega
theorem zfb_2989 (a : Nat) : 2989 + (a : Int) = ((2989 + a : Nat) : Int) := by omega
theorem zfm_2 (a : Nat) : (a : Int) * 2 = ((a * 2 : Nat) : Int) := by omega
theorem zfn_2 (a : Nat) : 2 * (a : Int) = ((2 * a : Nat) : Int) := by omega
theorem zfm_3 (a : Nat) : (a : Int) * 3 = ((a * 3 : Nat) : Int) := by omega
theorem zfn_3 (a : Nat) : 3 * (a : Int) = ((3 * a : Nat) : Int) := by omega
theorem zfm_4 (a : Nat) : (a : Int) * 4 = ((a * 4 : Nat) : Int) := by omega
theorem zfn_4 (a : Nat) : 4 * (a : Int) = ((4 * a : Nat) : Int) := by omega
theorem zfm_6 (a : Nat) : (a : Int) * 6 = ((a * 6 : Nat) : Int) := by omega
theorem zfn_6 (a : Nat) : 6 * (a : Int) = ((6 * a : Nat) : Int) := by omega
theorem zfm_7 (a : Nat) : (a : Int) * 7 = ((a * 7 : Nat) : Int) := by omega
theorem zfn_7 (a : Nat) : 7 * (a : Int) = ((7 * a : Nat) : Int) := by omega
theorem zfm_8 (a : Nat) : (a : Int) * 8 = ((a * 8 : Nat) : Int) := by omega
theorem zfn_8 (a : Nat) : 8 * (a : Int) = ((8 * a : Nat) : Int) := by omega
theorem zfm_12 (a : Nat) : (a : Int) * 12 = ((a * 12 : Nat) : Int) := by omega
theorem zfn_12 (a : Nat) : 12 * (a : Int) = ((12 * a : Nat) : Int) := by omega
theorem zfm_49 (a : Nat) : (a : Int) * 49 = ((a * 49 : Nat) : Int) := by omega
theorem zfn_49 (a : Nat) : 49 * (a : Int) = ((49 * a : Nat) : Int) := by omega
theorem zfm_60 (a : Nat) : (a : Int) * 60 = ((a * 60 : Nat) : Int) := by omega
theorem zfn_60 (a : Nat) : 60 * (a : Int) = ((60 * a : Nat) : Int) := by omega
theorem zfm_61 (a : Nat) : (a : Int) * 61 = ((a * 61 : Nat) : Int) := by omega
theorem zfn_61 (a : Nat) : 61 * (a : Int) = ((61 * a : Nat) : Int) := by omega
theorem zfm_792 (a : Nat) : (a : Int) * 792 = ((a * 792 : Nat) : Int) := by omega
theorem zfn_792 (a : Nat) : 792 * (a : Int) = ((792 * a : Nat) : Int) := by omega
theorem zfm_2989 (a : Nat) : (a : Int) * 2989 = ((a * 2989 : Nat) : Int) := by omega
theorem zfn_2989 (a : Nat) : 2989 * (a : Int) = ((2989 * a : Nat) : Int) := by omega
theorem zmd_up {l l' : List Nat} {f f' : List (Nat × Nat)} {H H' : zH} (h : zmd (zin l f) H H') (hs : (l.all (fun a => l'.contains a) && f.all (fun q => l'.contains q.1 || f'.contains q)) = true) : zmd (zin l' f') H H' := by
  refine zmd_mono h (fun a j hf => ?_)
  rw [Bool.and_eq_true, List.all_eq_true, List.all_eq_true] at hs
  unfold zin at hf ⊢
  rw [Bool.or_eq_false_iff] at hf ⊢
  constructor
  · cases hc : l.contains a with
    | false => rfl
    | true =>
      have h1 := hs.1 a (by simpa using hc)
      rw [hf.1] at h1
      cases h1
  · cases hc : f.contains (a, j) with
    | false => rfl
    | true =>
      have h1 := hs.2 (a, j) (by simpa using hc)
      rw [hf.1, hf.2] at h1
      cases h1
/-- the first number below n with P, or -1 -/
def zFst (P : Nat → Prop) (n : Nat) (r : Int) : Prop := (r = -1 ∧ ∀ k, k < n → ¬ P k) ∨ ∃ k, k < n ∧ r = (k : Nat) ∧ P k ∧ ∀ j, j < k → ¬ P j
theorem zFst_u {P P' : Nat → Prop} {n : Nat} {r r' : Int} (h : zFst P n r) (h' : zFst P' n r') (e : ∀ k, k < n → (P k ↔ P' k)) : r' = r := by
  rcases h with ⟨h1, h2⟩ | ⟨k, h1, h2, h3, h4⟩ <;> rcases h' with ⟨g1, g2⟩ | ⟨j, g1, g2, g3, g4⟩
  · omega
  · exact absurd ((e j g1).mpr g3) (h2 j g1)
  · exact absurd ((e k h1).mp h3) (g2 k h1)
  · rcases Nat.lt_trichotomy k j with q | q | q
    · exact absurd ((e k h1).mp h3) (g4 k q)
    · omega
    · exact absurd ((e j g1).mpr g3) (h4 j q)
theorem zall_s {P : Nat → Prop} {i : Nat} (h : ∀ j, j < i → P j) (hi : P i) : ∀ j, j < i + 1 → P j := fun j hj => by
  rcases Nat.lt_or_ge j i with q | q
  · exact h j q
  · rw [show j = i by omega]; exact hi
def zfo {α : Type} (f : Nat → α → α) (a : α) : Nat → α
  | 0 => a
  | n + 1 => f n (zfo f a n)
theorem zfo_s {α : Type} (f : Nat → α → α) (a : α) (n : Nat) : zfo f a (n + 1) = f n (zfo f a n) := rfl
theorem zsb_in {v lo hi : Int} (hv : 0 ≤ v ∧ v ≤ 255) (hlo : 0 ≤ lo) (hhi : hi ≤ 127) : (lo ≤ zsb v ∧ zsb v ≤ hi) ↔ (lo ≤ v ∧ v ≤ hi) := by
  unfold zsb
  split <;> omega
theorem zsb_eq {v : Int} (hv : 0 ≤ v ∧ v ≤ 127) : zsb v = v := by
  unfold zsb
  rw [if_pos (by omega)]
/-- a row of numbers written: f 0, f 1 .. at dp, dp + 1 .. -/
def zMW (H : zH) (b dp n : Nat) (f : Nat → Int) : zH := (H.1, H.2.1, (fun c k => if c = b ∧ dp ≤ k ∧ k < dp + n then f (k - dp) else H.2.2.1 c k), H.2.2.2)
theorem zS_mp (H : zH) (b dp n : Nat) (f : Nat → Int) : zS (zMW H b dp n f) = zS H := rfl
theorem zK_mp (H : zH) (b dp n : Nat) (f : Nat → Int) (c : Nat) : zK (zMW H b dp n f) c = zK H c := rfl
theorem zN_mp (H : zH) (b dp n : Nat) (f : Nat → Int) (c : Nat) : zN (zMW H b dp n f) c = zN H c := rfl
theorem zR_mp (H : zH) (b dp n : Nat) (f : Nat → Int) (c k : Nat) : zR (zMW H b dp n f) c k = zR H c k := rfl
theorem zA_mp (H : zH) (b dp n : Nat) (f : Nat → Int) (c k : Nat) : zA (zMW H b dp n f) c k = if c = b ∧ dp ≤ k ∧ k < dp + n then f (k - dp) else zA H c k := rfl
theorem zcp_mp (H : zH) (a sp b dp n : Nat) : zcp H a sp b dp n = zMW H b dp n (fun j => zA H a (sp + j)) := rfl
theorem zMW_0 (H : zH) (b dp : Nat) (f : Nat → Int) : zMW H b dp 0 f = H := by
  unfold zMW
  have e : (fun c k => if c = b ∧ dp ≤ k ∧ k < dp + 0 then f (k - dp) else H.2.2.1 c k) = H.2.2.1 := by
    funext c k
    rw [if_neg (by omega)]
  rw [e]
theorem zMW_s (H : zH) (b dp i : Nat) (f : Nat → Int) : zwA (zMW H b dp i f) b (dp + i) (f i) = zMW H b dp (i + 1) f := by
  unfold zwA zMW
  have e : (fun c k => if c = b ∧ k = dp + i then f i else if c = b ∧ dp ≤ k ∧ k < dp + i then f (k - dp) else H.2.2.1 c k) = (fun c k => if c = b ∧ dp ≤ k ∧ k < dp + (i + 1) then f (k - dp) else H.2.2.1 c k) := by
    funext c k
    by_cases h1 : c = b ∧ k = dp + i
    · rw [if_pos h1, if_pos ⟨h1.1, by omega, by omega⟩, show k - dp = i by omega]
    · rw [if_neg h1]
      by_cases h2 : c = b ∧ dp ≤ k ∧ k < dp + i
      · rw [if_pos h2, if_pos ⟨h2.1, by omega, by omega⟩]
      · rw [if_neg h2, if_neg (fun q => by
          by_cases h3 : k = dp + i
          · exact h1 ⟨q.1, h3⟩
          · exact h2 ⟨q.1, by omega, by omega⟩)]
  exact congrArg (fun g => (H.1, H.2.1, g, H.2.2.2)) e
theorem zLay_mp {H : zH} (h : zLay H) (b dp n : Nat) (f : Nat → Int) : zLay (zMW H b dp n f) := h
theorem zmd_mp {S : Nat → Nat → Bool} {H H1 : zH} {b dp n : Nat} {f : Nat → Int} (h : zmd S H H1) (hs : ∀ j, S b j = true) : zmd S H (zMW H1 b dp n f) := zmd_tr h ⟨rfl, rfl, fun _ _ => rfl, fun c k hc => by rw [zA_mp, if_neg (fun q => by rw [q.1, hs] at hc; cases hc)]⟩
theorem zAn_wA {H : zH} {a j b : Nat} {x : Int} (h : b ≠ a) : zA (zwA H a j x) b = zA H b := by funext k; rw [zA_wA, if_neg (fun q => h q.1)]
theorem zAn_mp {H : zH} {a dp n b : Nat} {f : Nat → Int} (h : b ≠ a) : zA (zMW H a dp n f) b = zA H b := by funext k; rw [zA_mp, if_neg (fun q => h q.1)]
theorem zAn_cp {H : zH} {c sp a dp n b : Nat} (h : b ≠ a) : zA (zcp H c sp a dp n) b = zA H b := by funext k; rw [zA_cp, if_neg (fun q => h q.1)]
theorem iT_0 {H : zH} (h1 : zA H 2 3 = 0) (h2 : zA H 106 1 = 0) : iT H := ⟨0, by omega, h1, h2, fun j hj => by omega⟩
