/-! ===== words of the manners are distinct ===== -/
def zWdd (t : Nat → Int) (w : Nat × (Nat → Nat × Nat)) : Prop := ∀ v : Nat, v < w.1 → ∀ v' : Nat, v' < v → ¬ zsw2 t w.2 (w.2 v).1 (w.2 v).2 v'
theorem zWdd_a {t : Nat → Int} {p s : Nat} {w : Nat × (Nat → Nat × Nat)} (h : zWdd t w) : zWdd t (zadw t p s w) := by
  obtain ⟨a1, a2, a3⟩ := zfi_p (P := zsw2 t w.2 p s) w.1
  unfold zadw
  by_cases q : zfi (zsw2 t w.2 p s) w.1 < w.1
  · rw [zcif_p q]; exact h
  · rw [zcif_n q]
    have e : zfi (zsw2 t w.2 p s) w.1 = w.1 := by omega
    rw [e] at a2
    intro v hv v' hv' hs
    have hv : v < w.1 + 1 := hv
    have hs : (zcif (v' = w.1) (p, s) (w.2 v')).2 = (zcif (v = w.1) (p, s) (w.2 v)).2 ∧ ∀ j : Nat, j < (zcif (v = w.1) (p, s) (w.2 v)).2 → t ((zcif (v' = w.1) (p, s) (w.2 v')).1 + j) = t ((zcif (v = w.1) (p, s) (w.2 v)).1 + j) := hs
    rw [zcif_n (show ¬ v' = w.1 by omega)] at hs
    by_cases e2 : v = w.1
    · rw [zcif_p e2] at hs
      exact a2 v' (by omega) hs
    · rw [zcif_n e2] at hs
      exact h v (by omega) v' hv' hs
theorem ztkn_wd {t : Nat → Int} {n p : Nat} {w : Nat × (Nat → Nat × Nat)} {tk : List Nat} {rs : Nat → Int} {it op st nm rl : Nat} {q : Nat × zσ} (h : ztkn t n p (w, tk, rs, it, op, st, nm, rl) = Sum.inr q) : q.2.1 = w ∨ q.2.1 = zadw t p (zwe t n p - p) w := by
  rw [ztkn_e] at h
  unfold zcif at h
  repeat' split at h
  all_goals first | (cases h; done) | (cases h; exact Or.inl rfl) | (cases h; exact Or.inr rfl)
theorem zprs_wd {t : Nat → Int} {n : Nat} : ∀ (f p : Nat) (s s' : zσ), zWdd t s.1 → zprs t n f p s = Sum.inr s' → zWdd t s'.1
  | 0, p, s, s', hw, h => by
    have h : zcif (s.2.2.2.2.2.1 = 0) (Sum.inr s) (Sum.inl (1, p)) = (Sum.inr s' : (Nat × Nat) ⊕ zσ) := h
    by_cases q : s.2.2.2.2.2.1 = 0
    · rw [zcif_p q] at h; cases h; exact hw
    · rw [zcif_n q] at h; cases h
  | f + 1, p, s, s', hw, h => by
    by_cases q : n ≤ p
    · rw [zprs_e q] at h
      by_cases q : s.2.2.2.2.2.1 = 0
      · rw [zcif_p q] at h; cases h; exact hw
      · rw [zcif_n q] at h; cases h
    · obtain ⟨w, tk, rs, it, op, st, nm, rl⟩ := s
      cases hk : ztkn t n p (w, tk, rs, it, op, st, nm, rl) with
      | inl k => rw [zprs_l q hk] at h; cases h
      | inr r =>
        obtain ⟨r1, r2⟩ := r
        rw [zprs_r q hk] at h
        refine zprs_wd f r1 r2 s' ?_ h
        rcases ztkn_wd hk with e | e
        · rw [show r2.1 = w from e]; exact hw
        · rw [show r2.1 = zadw t p (zwe t n p - p) w from e]; exact zWdd_a hw
/-! ===== how many questions: numbers by words ===== -/
def zcvo (f g : Nat → Nat) : Nat → Nat
  | 0 => f 0 * g 0
  | n + 1 => f 0 * g (n + 1) + zcvo (fun k => f (k + 1)) g n
def zc1 (n : Nat) : Nat := if n = 0 then 1 else 0
def zcX (n : Nat) : Nat := if n = 1 then 1 else 0
def zca (f g : Nat → Nat) (n : Nat) : Nat := f n + g n
def zcL (e : Nat → Nat → Nat) (x : Nat) : Nat → Nat := if x < 120 then zcX else e (x - 124)
def zcRow {α : Type} (f : α → Nat → Nat) : List α → Nat → Nat
  | [] => zc1
  | i :: r => zcvo (f i) (zcRow f r)
def zcRs {α : Type} (f : α → Nat → Nat) : List (List α) → Nat → Nat
  | [] => fun _ => 0
  | r :: rs => zca (zcRow f r) (zcRs f rs)
def zcI (e : Nat → Nat → Nat) : (n : Nat) → zIt n → Nat → Nat
  | 0 => fun (x : Nat) => zcL e x
  | n + 1 => fun (it : Nat ⊕ List (List (zIt n))) => match it with
    | Sum.inl x => zcL e x
    | Sum.inr rs => zca zc1 (zcRs (zcI e n) rs)
/-- by name, from the last on: k names are counted -/
def zcE (ru : Nat → List (List (zIt 4))) (has : Nat → Bool) : Nat → Nat → Nat → Nat
  | 0 => fun _ _ => 0
  | k + 1 => fun c => if c + k = 7 then (if has c then zcRs (zcI (zcE ru has k) 4) (ru c) else fun _ => 0) else zcE ru has k c
def zsat (x : Nat) : Nat := if 1000000000001 ≤ x then 1000000000001 else x
/-- the rule of name k, with its rows -/
def zRur (G : zH) (t : Nat → Int) (w : Nat × (Nat → Nat × Nat)) (tk : List Nat) (rs : Nat → Int) (rows : List (List (zIt 4))) (k : Nat) : Prop := ∃ (i i' c l' : Nat) (u v : List Nat), zA G 156 k = c ∧ zRrs (zRi G 0 0 t w 4) (fun k => zA G 151 (0 + k)) (fun k => zA G 154 (0 + k)) (fun k => zA G 155 (0 + k)) rows i (c + 1) i' l' c ∧ zokRs (zokI (zlfP w.1 k) 4) rows ∧ i' ≤ 120 ∧ l' ≤ 400 ∧ tk = u ++ (zfRs (zfI 4) rows ++ [123]) ++ v ∧ rs k = (u.length : Nat)
/-- the manners that stand: in the class's object K and in the reference's first half -/
def iMg (H : zH) (K n : Nat) (t : Nat → Int) (w : Nat × (Nat → Nat × Nat)) (tk : List Nat) (rs : Nat → Int) (ru : Nat → List (List (zIt 4))) : Prop := n ≤ 400 ∧ (∀ j : Nat, j < n → zA H (K + 1) j = t j) ∧ zA H K 4 = w.1 ∧ (∀ v : Nat, v < w.1 → zA H (K + 2) v = (w.2 v).1 ∧ zA H (K + 3) v = (w.2 v).2) ∧ zA H K 6 = tk.length ∧ (∀ i : Nat, i < tk.length → zA H (K + 4) i = (tk.getD i 0 : Nat)) ∧ (∀ k : Nat, k < 8 → zA H (K + 5) k = rs k) ∧ w.1 ≤ 120 ∧ tk.length ≤ 400 ∧ (∀ v : Nat, v < w.1 → (w.2 v).1 + (w.2 v).2 ≤ n ∧ 1 ≤ (w.2 v).2 ∧ (w.2 v).2 ≤ 12) ∧ zWdd t w ∧ (∀ k : Nat, k < 8 → -1 ≤ rs k ∧ rs k ≤ 400) ∧ (∀ k : Nat, k < 8 → zA H 157 k = if 0 ≤ rs k then 1 else 0) ∧ (∀ k : Nat, k < 8 → 0 ≤ rs k → zRur H t w tk rs (ru k) k) ∧ (∀ j : Nat, j < n → 0 ≤ t j ∧ t j ≤ 255)
/-- numbers that are kept are right -/
def zCac (H : zH) (ru : Nat → List (List (zIt 4))) (rs : Nat → Int) : Prop := zA H 78 4 = 0 ∨ (zA H 78 4 = 1 ∧ ∀ j : Nat, j < 61 → zA H 82 j = (zsat (zcE ru (fun c => decide (0 ≤ rs c)) 8 0 j) : Nat))
def iMn (H : zH) : Prop := ∃ (K n : Nat) (t : Nat → Int) (w : Nat × (Nat → Nat × Nat)) (tk : List Nat) (rs : Nat → Int) (ru : Nat → List (List (zIt 4))), ((K = 94 ∧ zR H 1 8 = some 94 ∧ zR H 1 9 = some 100) ∨ (K = 100 ∧ zR H 1 8 = some 100 ∧ zR H 1 9 = some 94)) ∧ iMg H K n t w tk rs ru ∧ zCac H ru rs
theorem zRur_c {H G : zH} {t : Nat → Int} {w : Nat × (Nat → Nat × Nat)} {tk : List Nat} {rs : Nat → Int} {rows : List (List (zIt 4))} {k : Nat} (hs : ∀ x : Nat, x < w.1 → (w.2 x).2 ≤ 12) (hA : ∀ j : Nat, j < 120 → zA G 149 j = zA H 149 j ∧ zA G 150 j = zA H 150 j ∧ zA G 151 j = zA H 151 j ∧ zA G 153 j = zA H 153 j ∧ ∀ b : Nat, b < 12 → zA G 152 (12 * j + b) = zA H 152 (12 * j + b)) (hI : ∀ j : Nat, j < 400 → zA G 154 j = zA H 154 j ∧ zA G 155 j = zA H 155 j) (h156 : zA G 156 k = zA H 156 k) (h : zRur H t w tk rs rows k) : zRur G t w tk rs rows k := by
  obtain ⟨i, i', c, le, u, v, h1, h2, h3, h4, h5, h6, h7⟩ := h
  have hm := zRrs_m (zRi_m 4) rows _ _ _ _ _ h2
  refine ⟨i, i', c, le, u, v, by rw [h156]; exact h1, ?_, h3, h4, h5, h6, h7⟩
  refine zRrs_c (zRi_m 4) rows _ _ _ _ _ h2 (by omega) (fun a x y x' y' q1 q2 q3 q4 hp => zRi_c (zwx_r w) hs 4 a x y x' y' hp (fun j r1 r2 => ?_) (fun j r1 r2 => ?_) (fun j r1 r2 => ?_)) (fun j r1 r2 => ?_) (fun j r1 r2 => ?_)
  · obtain ⟨a1, a2, a3, a4, a5⟩ := hA j (by omega)
    rw [Nat.zero_add]
    exact ⟨a1, a2, a4, a5⟩
  · rw [Nat.zero_add]; exact (hA j (by omega)).2.2.1
  · rw [Nat.zero_add]; exact hI j (by omega)
  · rw [Nat.zero_add]; exact (hA j (by omega)).2.2.1
  · rw [Nat.zero_add]; exact hI j (by omega)
/-- the manners stand where the cells are the same -/
theorem iMg_c {H G : zH} {K n : Nat} {t : Nat → Int} {w : Nat × (Nat → Nat × Nat)} {tk : List Nat} {rs : Nat → Int} {ru : Nat → List (List (zIt 4))} (hA : ∀ a j : Nat, (K ≤ a ∧ a ≤ K + 5) ∨ (149 ≤ a ∧ a ≤ 151 ∧ j < 120) ∨ (a = 153 ∧ j < 120) ∨ (a = 152 ∧ j < 1440) ∨ (154 ≤ a ∧ a ≤ 155 ∧ j < 400) ∨ (156 ≤ a ∧ a ≤ 157 ∧ j < 8) → zA G a j = zA H a j) (h : iMg H K n t w tk rs ru) : iMg G K n t w tk rs ru := by
  obtain ⟨h1, h2, h3, h4, h5, h6, h7, h8, h9, h10, h11, h12, h13, h14, h15⟩ := h
  refine ⟨h1, fun j hj => by rw [hA _ _ (by omega)]; exact h2 j hj, by rw [hA _ _ (by omega)]; exact h3, fun v hv => ⟨by rw [hA _ _ (by omega)]; exact (h4 v hv).1, by rw [hA _ _ (by omega)]; exact (h4 v hv).2⟩, by rw [hA _ _ (by omega)]; exact h5, fun i hi => by rw [hA _ _ (by omega)]; exact h6 i hi, fun k hk => by rw [hA _ _ (by omega)]; exact h7 k hk, h8, h9, h10, h11, h12, fun k hk => by rw [hA _ _ (by omega)]; exact h13 k hk, fun k hk hk0 => ?_, h15⟩
  exact zRur_c (fun x hx => (h10 x hx).2.2) (fun j hj => ⟨hA _ _ (by omega), hA _ _ (by omega), hA _ _ (by omega), hA _ _ (by omega), fun b hb => hA _ _ (by omega)⟩) (fun j hj => ⟨hA _ _ (by omega), hA _ _ (by omega)⟩) (hA _ _ (by omega)) (h14 k hk hk0)
