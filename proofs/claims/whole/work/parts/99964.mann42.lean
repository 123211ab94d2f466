/-! ===== what names stand for, from the last name on ===== -/
def zEnv {β : Type} (F : (Nat → β) → Nat → β) (z : β) : Nat → Nat → β
  | 0 => fun _ => z
  | k + 1 => fun c => if c + k = 7 then F (zEnv F z k) c else zEnv F z k c
theorem zEnv_k {β : Type} {F : (Nat → β) → Nat → β} {z : β} {c : Nat} (hc : c < 8) : ∀ k : Nat, 8 - c ≤ k → zEnv F z k c = zEnv F z (8 - c) c
  | 0, h => by omega
  | k + 1, h => by
    by_cases e : c + k = 7
    · rw [show 8 - c = k + 1 by omega]
    · show (if c + k = 7 then F (zEnv F z k) c else zEnv F z k c) = _
      rw [if_neg e]
      exact zEnv_k hc k (by omega)
theorem zEnv_e {β : Type} {F : (Nat → β) → Nat → β} {z : β} (hF : ∀ (e e' : Nat → β) (c : Nat), c < 8 → (∀ c' : Nat, c < c' → c' < 8 → e c' = e' c') → F e c = F e' c) {c : Nat} (hc : c < 8) : zEnv F z 8 c = F (zEnv F z 8) c := by
  rw [zEnv_k hc 8 (by omega), show 8 - c = (7 - c) + 1 by omega]
  show (if c + (7 - c) = 7 then F (zEnv F z (7 - c)) c else zEnv F z (7 - c) c) = _
  rw [if_pos (by omega)]
  refine hF _ _ c hc (fun c' h1 h2 => ?_)
  rw [zEnv_k h2 8 (by omega), zEnv_k h2 (7 - c) (by omega)]
theorem zEnv_p {β : Type} {F : (Nat → β) → Nat → β} {z : β} {B : β → Prop} (hz : B z) (hF : ∀ (e : Nat → β) (c : Nat), (∀ c, B (e c)) → B (F e c)) : ∀ k c : Nat, B (zEnv F z k c)
  | 0, _ => hz
  | k + 1, c => by
    show B (if c + k = 7 then F (zEnv F z k) c else zEnv F z k c)
    split
    · exact hF _ _ (fun c => zEnv_p hz hF k c)
    · exact zEnv_p hz hF k c
theorem zsRow_B {α S : Type} {B : S → Prop} {g : α → S → S} {ok : α → Prop} (h : ∀ a, ok a → ∀ s, B s → B (g a s)) : ∀ (r : List α), zokRow ok r → ∀ s, B s → B (zsRow g r s)
  | [], _, s, hs => hs
  | a :: r, hr, s, hs => zsRow_B h r hr.2 _ (h a hr.1 s hs)
theorem zokRs_h {α : Type} {ok : α → Prop} {r : List α} : ∀ {rs : List (List α)}, zokRs ok (r :: rs) → zokRow ok r
  | [], h => h
  | _ :: _, h => h.1
theorem zsRs_B {α S : Type} {B : S → Prop} {jn : S → S → S} {g : α → S → S} {ok : α → Prop} (hj : ∀ a b, B a → B b → B (jn a b)) (h : ∀ a, ok a → ∀ s, B s → B (g a s)) : ∀ (r : List (List α)), zokRs ok r → ∀ s a, B s → B a → B (zsRs jn g r s a)
  | [], hr, _, _, _, _ => hr.elim
  | [r], hr, s, a, hs, ha => hj _ _ ha (zsRow_B h r hr s hs)
  | r :: q :: rs, hr, s, a, hs, ha => zsRs_B hj h (q :: rs) hr.2 s _ hs (hj _ _ ha (zsRow_B h r hr.1 s hs))
theorem zsI_B {S : Type} {B : S → Prop} {jn : S → S → S} {tk : Nat → S → S} {P : Nat → Prop} (hj : ∀ a b, B a → B b → B (jn a b)) (h : ∀ x, P x → ∀ s, B s → B (tk x s)) : ∀ (n : Nat) (it : zIt n), zokI P n it → ∀ s, B s → B (zsI tk jn n it s)
  | 0, (x : Nat), hp, s, hs => h x hp s hs
  | n + 1, Sum.inl x, hp, s, hs => h x hp s hs
  | n + 1, Sum.inr rs, hp, s, hs => zsRs_B hj (fun a ha s hs => zsI_B hj h n a ha s hs) rs hp s s hs hs
/-! ===== where names end ===== -/
def zmF (n : Nat) (wb : Nat → Nat → Bool) (rs : Nat → Int) (ru : Nat → List (List (zIt 4))) (e : Nat → Nat → Nat) (c : Nat) : Nat → Nat := fun i => if c < 8 ∧ 0 ≤ rs c ∧ i ≤ n then zsRs zmJ (zsI (zmT n wb e) zmJ 4) (ru c) (2 ^ i) 0 else 0
def zmV (n : Nat) (wb : Nat → Nat → Bool) (rs : Nat → Int) (ru : Nat → List (List (zIt 4))) : Nat → Nat → Nat := zEnv (zmF n wb rs ru) (fun _ => 0) 8
theorem zmT_c {n wc nm : Nat} {wb : Nat → Nat → Bool} {e e' : Nat → Nat → Nat} (h : ∀ c : Nat, nm < c → c < 8 → ∀ i : Nat, i < n + 1 → e c i = e' c i) : ∀ x : Nat, zlfP wc nm x → ∀ s, zmT n wb e x s = zmT n wb e' x s := by
  intro x hx s
  unfold zmT
  refine zmP_c (n + 1) (fun i hi => ?_)
  unfold zmEl
  unfold zlfP at hx
  by_cases q : x < 120
  · rw [if_pos q, if_pos q]
  · rw [if_neg q, if_neg q]
    exact h _ (by omega) (by omega) i hi
theorem zmR_c {n wc nm : Nat} {wb : Nat → Nat → Bool} {e e' : Nat → Nat → Nat} {rows : List (List (zIt 4))} (hr : zokRs (zokI (zlfP wc nm) 4) rows) (h : ∀ c : Nat, nm < c → c < 8 → ∀ i : Nat, i < n + 1 → e c i = e' c i) (s a : Nat) : zsRs zmJ (zsI (zmT n wb e) zmJ 4) rows s a = zsRs zmJ (zsI (zmT n wb e') zmJ 4) rows s a :=
  zsRs_c (fun it hit s => zsI_c (zmT_c h) 4 it hit s) rows hr s a
theorem zmV_e {n wc : Nat} {wb : Nat → Nat → Bool} {rs : Nat → Int} {ru : Nat → List (List (zIt 4))} (hok : ∀ c : Nat, c < 8 → 0 ≤ rs c → zokRs (zokI (zlfP wc c) 4) (ru c)) {c : Nat} (hc : c < 8) (i : Nat) (hi : i ≤ n) : zmV n wb rs ru c i = if 0 ≤ rs c then zsRs zmJ (zsI (zmT n wb (zmV n wb rs ru)) zmJ 4) (ru c) (2 ^ i) 0 else 0 := by
  have h := zEnv_e (F := zmF n wb rs ru) (z := fun _ => 0) (fun e e' c hc he => by
    funext i
    unfold zmF
    by_cases q : c < 8 ∧ 0 ≤ rs c ∧ i ≤ n
    · rw [if_pos q, if_pos q]
      exact zmR_c (hok c hc q.2.1) (fun c' h1 h2 i _ => by rw [he c' h1 h2]) _ _
    · rw [if_neg q, if_neg q]) hc
  have h2 := congrFun h i
  have h2 : zmV n wb rs ru c i = zmF n wb rs ru (zmV n wb rs ru) c i := h2
  rw [h2]
  unfold zmF
  by_cases q : 0 ≤ rs c
  · rw [if_pos ⟨hc, q, hi⟩, if_pos q]
  · rw [if_neg (fun r => q r.2.1), if_neg q]
theorem zmV_b {n wc : Nat} {wb : Nat → Nat → Bool} {rs : Nat → Int} {ru : Nat → List (List (zIt 4))} (hok : ∀ c : Nat, c < 8 → 0 ≤ rs c → zokRs (zokI (zlfP wc c) 4) (ru c)) (c i : Nat) : zmV n wb rs ru c i < 2 ^ (n + 1) := by
  refine zEnv_p (F := zmF n wb rs ru) (B := fun v => ∀ i, v i < 2 ^ (n + 1)) (fun _ => Nat.two_pow_pos _) (fun e c he i => ?_) 8 c i
  unfold zmF
  by_cases q : c < 8 ∧ 0 ≤ rs c ∧ i ≤ n
  · rw [if_pos q]
    refine zsRs_B (B := fun s => s < 2 ^ (n + 1)) (fun a b ha hb => zmor ha hb) (fun it hit s hs => zsI_B (B := fun s => s < 2 ^ (n + 1)) (P := zlfP wc c) (fun a b ha hb => zmor ha hb) (fun x hx s _ => zmT_b (fun c _ i _ => he c i) ?_) 4 it hit s hs) (ru c) (hok c q.1 q.2.1) _ _ (Nat.pow_lt_pow_right (by omega) (by omega)) (Nat.two_pow_pos _)
    unfold zlfP at hx
    unfold zlf
    omega
  · rw [if_neg q]
    exact Nat.two_pow_pos _
/-! ===== words at places ===== -/
theorem zwb_u {t : Nat → Int} {w : Nat × (Nat → Nat × Nat)} (hdd : zWdd t w) {T : Nat → Int} {s r x : Nat} (hr : r < w.1) (hx : x < w.1) (h1 : (w.2 r).2 = s ∧ ∀ j : Nat, j < s → t ((w.2 r).1 + j) = T j) (h2 : (w.2 x).2 = s ∧ ∀ j : Nat, j < s → t ((w.2 x).1 + j) = T j) : x = r := by
  obtain ⟨a1, a2⟩ := h1
  obtain ⟨b1, b2⟩ := h2
  rcases Nat.lt_trichotomy x r with q | q | q
  · refine absurd ⟨by omega, fun j hj => ?_⟩ (hdd r hr x q)
    rw [a2 j (by omega), b2 j (by omega)]
  · exact q
  · refine absurd ⟨by omega, fun j hj => ?_⟩ (hdd x hx r q)
    rw [a2 j (by omega), b2 j (by omega)]
theorem zwp_1 {f : Nat → Bool} {wp i : Nat} (hb : wp < 2 ^ i) (h : ∀ p : Nat, wp.testBit p = (decide (p < i) && f p)) (hf : f i = true) : wp ||| 2 ^ i < 2 ^ (i + 1) ∧ ∀ p : Nat, (wp ||| 2 ^ i).testBit p = (decide (p < i + 1) && f p) := by
  refine ⟨Nat.or_lt_two_pow (Nat.lt_trans hb (Nat.pow_lt_pow_right (by omega) (by omega))) (Nat.pow_lt_pow_right (by omega) (by omega)), fun p => ?_⟩
  rw [Nat.testBit_or, Nat.testBit_two_pow, h p]
  rcases Nat.lt_trichotomy p i with q | q | q
  · rw [decide_eq_true q, decide_eq_true (show p < i + 1 by omega), decide_eq_false (show ¬ i = p by omega), Bool.or_false]
  · subst q
    rw [hf, decide_eq_true (rfl : p = p), decide_eq_true (show p < p + 1 by omega), Bool.or_true]; rfl
  · rw [decide_eq_false (show ¬ p < i by omega), decide_eq_false (show ¬ p < i + 1 by omega), decide_eq_false (show ¬ i = p by omega)]; rfl
theorem zwp_0 {f : Nat → Bool} {wp i : Nat} (hb : wp < 2 ^ i) (h : ∀ p : Nat, wp.testBit p = (decide (p < i) && f p)) (hf : f i = false) : wp < 2 ^ (i + 1) ∧ ∀ p : Nat, wp.testBit p = (decide (p < i + 1) && f p) := by
  refine ⟨Nat.lt_trans hb (Nat.pow_lt_pow_right (by omega) (by omega)), fun p => ?_⟩
  rw [h p]
  rcases Nat.lt_trichotomy p i with q | q | q
  · rw [decide_eq_true q, decide_eq_true (show p < i + 1 by omega)]
  · subst q
    rw [hf, Bool.and_false, Bool.and_false]
  · rw [decide_eq_false (show ¬ p < i by omega), decide_eq_false (show ¬ p < i + 1 by omega)]
