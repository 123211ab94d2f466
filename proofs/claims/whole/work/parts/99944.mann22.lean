theorem zso_n {t : Nat → Int} {n a : Nat} (h : zso t n a ≠ 8) : a < n := by
  have := (zso_i (t := t) (n := n) (a := a)).1
  apply Classical.byContradiction
  intro q
  exact h (this.mpr (by omega))
/-- what the first part of an item leaves -/
theorem zLk_fr {G G' : zH} {it l c : Nat} {b : Int} (hb : b = -1 ∨ ∃ k : Nat, b = k ∧ k < it) (h : ∀ x y : Nat, zLk it c b x y = false → x ≠ 106 → zA G' x y = zA G x y) : (∀ k : Nat, k < it → zA G' 149 (120 + k) = zA G 149 (120 + k) ∧ zA G' 150 (120 + k) = zA G 150 (120 + k) ∧ zA G' 153 (120 + k) = zA G 153 (120 + k) ∧ (∀ j : Nat, j < 12 → zA G' 152 (12 * (120 + k) + j) = zA G 152 (12 * (120 + k) + j)) ∧ ((k : Int) ≠ b → zA G' 151 (120 + k) = zA G 151 (120 + k))) ∧ (∀ k : Nat, k < l → (¬ (b = -1 ∧ k = c) → zA G' 154 (400 + k) = zA G 154 (400 + k)) ∧ zA G' 155 (400 + k) = zA G 155 (400 + k)) := by
  clear hb
  refine ⟨fun k hk => ⟨h _ _ (decide_eq_false (by omega)) (by omega), h _ _ (decide_eq_false (by omega)) (by omega), h _ _ (decide_eq_false (by omega)) (by omega), fun j hj => h _ _ (decide_eq_false (by omega)) (by omega), fun q => h _ _ (decide_eq_false (by omega)) (by omega)⟩, fun k hk => ⟨fun q => h _ _ (decide_eq_false (by omega)) (by omega), h _ _ (decide_eq_false (by omega)) (by omega)⟩⟩
/-- rows end where no row goes on: else a fault -/
theorem zat_f1 {t : Nat → Int} {n f a : Nat} {w : Nat × (Nat → Nat × Nat)} {tk : List Nat} {rs : Nat → Int} {it op st nm rl : Nat} {R : (Nat × Nat) ⊕ zσ} (hf : n - a ≤ f) (hsp : a < n → ¬ (t a = 32 ∨ t a = 10)) (hR : R = zprs t n f a (w, tk, rs, it, op, st, nm, rl)) (hst : st = 2) (h1 : zso t n a ≠ 1) (h2 : zso t n a ≠ 2) (h4 : zso t n a ≠ 4) (h6 : zso t n a ≠ 6) (h7 : ¬ (zso t n a = 7 ∧ 0 < op)) (h5 : ¬ (zso t n a = 5 ∧ op = 0)) : R = Sum.inl (1, a) := by
  obtain ⟨i8, i1, i2, i3, i4, i5, i6, i7⟩ := zso_i (t := t) (n := n) (a := a)
  by_cases han : a < n
  · by_cases q : zltr (t a)
    · exact zat_w1 hf hsp hR han q (Or.inr (by
        apply Classical.byContradiction
        intro r
        exact h2 (i2.mpr ⟨han, q, by omega⟩)))
    · exact zat_bad hf hsp hR han hst q (fun r => h1 (i1.mpr ⟨han, by omega, by omega⟩)) (fun r => h4 (i4.mpr ⟨han, r⟩)) (fun r => h6 (i6.mpr ⟨han, r⟩)) (fun r => h7 ⟨i7.mpr ⟨han, r.1⟩, r.2⟩) (fun r => h5 ⟨i5.mpr ⟨han, r.1⟩, r.2⟩)
  · exact zat_e1 hR (by omega) (by omega)
theorem zokRow_w {α : Type} {f g : α → Prop} (h : ∀ a, f a → g a) : ∀ r : List α, zokRow f r → zokRow g r
  | [], _ => trivial
  | a :: r, k => ⟨h a k.1, zokRow_w h r k.2⟩
theorem zokRs_w {α : Type} {f g : α → Prop} (h : ∀ a, f a → g a) : ∀ r : List (List α), zokRs f r → zokRs g r
  | [], k => k
  | [r], k => zokRow_w h r k
  | r :: q :: rs, k => ⟨zokRow_w h r k.1, zokRs_w h (q :: rs) k.2⟩
theorem zokI_w {P P' : Nat → Prop} (h : ∀ x, P x → P' x) : ∀ (n : Nat) (it : zIt n), zokI P n it → zokI P' n it
  | 0, x, k => h x k
  | n + 1, it, k => by
    match it, k with
    | Sum.inl x, k => exact h x k
    | Sum.inr rs, k => exact zokRs_w (zokI_w h n) rs k
theorem zlfP_w {wc wc' nm x : Nat} (h : wc ≤ wc') (k : zlfP wc nm x) : zlfP wc' nm x := by
  unfold zlfP at k ⊢
  omega
/-- rows stand where their cells are the same -/
theorem zRrs_k {H G : zH} {t : Nat → Int} {w w' : Nat × (Nat → Nat × Nat)} {m i l i' l' c : Nat} {rows : List (List (zIt m))} (hw : zwx w w') (hs : ∀ x : Nat, x < w.1 → (w.2 x).2 ≤ 12) (hA : ∀ x y : Nat, 149 ≤ x → x ≤ 155 → zA G x y = zA H x y) (hc : c < l) (h : zRrs (zRi H 120 400 t w m) (fun k => zA H 151 (120 + k)) (fun k => zA H 154 (400 + k)) (fun k => zA H 155 (400 + k)) rows i l i' l' c) : zRrs (zRi G 120 400 t w' m) (fun k => zA G 151 (120 + k)) (fun k => zA G 154 (400 + k)) (fun k => zA G 155 (400 + k)) rows i l i' l' c :=
  zRrs_c (zRi_m m) rows _ _ _ _ _ h hc (fun a x y x' y' _ _ _ _ hp => zRi_c hw hs m a x y x' y' hp (fun k _ _ => ⟨hA _ _ (by omega) (by omega), hA _ _ (by omega) (by omega), hA _ _ (by omega) (by omega), fun j _ => hA _ _ (by omega) (by omega)⟩) (fun k _ _ => hA _ _ (by omega) (by omega)) (fun k _ _ => ⟨hA _ _ (by omega) (by omega), hA _ _ (by omega) (by omega)⟩)) (fun j _ _ => hA _ _ (by omega) (by omega)) (fun j _ _ => ⟨hA _ _ (by omega) (by omega), hA _ _ (by omega) (by omega)⟩)
theorem zbn {b : Int} {it : Nat} : (b = -1 ∨ ∃ k : Nat, b = k ∧ k < it) ↔ (b = -1 ∨ (0 ≤ b ∧ b < it)) := by
  constructor
  · intro h
    rcases h with h | ⟨k, h1, h2⟩
    · exact Or.inl h
    · exact Or.inr ⟨by omega, by omega⟩
  · intro h
    rcases h with h | h
    · exact Or.inl h
    · exact Or.inr ⟨b.toNat, by omega, by omega⟩
theorem zS2_150 (k : Nat) : zS2 150 (120 + k) = true := by
  unfold zS2
  simp
theorem zS2_f {G : zH} {k : Int} {a : Nat} : zmd zSf G (zwA (zwA G 106 73 k) 106 74 a) := zmd_w (zmd_w (zmd_rf _ _) rfl) rfl
theorem zfL_f {G : zH} {k : Int} {a : Nat} : zA (zwA (zwA G 106 73 k) 106 74 a) 106 73 = k ∧ zA (zwA (zwA G 106 73 k) 106 74 a) 106 74 = a := by
  constructor
  · simp [zA_wA]
  · simp [zA_wA]
set_option maxRecDepth 100000 in
theorem zc_riW {xs : Nat → Int} {L d : Nat} {n : Nat} {t : Nat → Int} {R : (Nat × Nat) ⊕ zσ} {m : Nat} {G : zH} {Q : zQ} {a it l f nm rl c : Nat} {b : Int} {w : Nat × (Nat → Nat × Nat)} {tk : List Nat} {rs : Nat → Int} {w5 w6 : Option zV} {dp : Int} (hd : 2 ≤ d) (hSt : zSt G n t a it l) (hR : R = zprs t n f a (w, tk, rs, it, 4 - m, 2, nm, rl)) (hf : n - a ≤ f) (hla : l ≤ a) (hit : it < 120) (hw : w.1 ≤ it) (hws : ∀ x : Nat, x < w.1 → (w.2 x).2 ≤ 12) (hc : c < l) (hb : b = -1 ∨ ∃ k : Nat, b = k ∧ k < it) (hso : zso t n a = 1 ∨ zso t n a = 2) (hnn : ¬ (zso t n a = 1 ∧ t a - 65 ≤ nm)) (h1 : ∀ (G' : zH) (a' it' l' f' : Nat) (w' : Nat × (Nat → Nat × Nat)) (x : zIt m), zmd zS2 G G' → zSt G' n t a' it' l' → a < a' → l' ≤ a' → it < it' → it' ≤ 120 → w'.1 ≤ it' → (∀ x : Nat, x < w'.1 → (w'.2 x).2 ≤ 12) → zwx w w' → R = zprs t n f' a' (w', tk ++ zfI m x, rs, it', 4 - m, 2, nm, rl) → n - a' ≤ f' → zRi G' 120 400 t w' m x it l it' l' → zokI (zlfP w'.1 nm) m x → zA G' 151 (120 + it) = -1 → (b = -1 → zA G' 154 (400 + c) = it) → (∀ k : Nat, b = k → zA G' 151 (120 + k) = it) → (∀ k : Nat, k < it → zA G' 149 (120 + k) = zA G 149 (120 + k) ∧ zA G' 150 (120 + k) = zA G 150 (120 + k) ∧ zA G' 153 (120 + k) = zA G 153 (120 + k) ∧ (∀ j : Nat, j < 12 → zA G' 152 (12 * (120 + k) + j) = zA G 152 (12 * (120 + k) + j)) ∧ ((k : Int) ≠ b → zA G' 151 (120 + k) = zA G 151 (120 + k))) → (∀ k : Nat, k < l → (¬ (b = -1 ∧ k = c) → zA G' 154 (400 + k) = zA G 154 (400 + k)) ∧ zA G' 155 (400 + k) = zA G 155 (400 + k)) → Q 1 G') : zEt xs L d 0 0 false 286 51 [some (zr (some 106)), some (zi nm), some (zi dp), some (zi (c : Nat)), some (zi b), w5, w6] [] G Q := by
  obtain ⟨hL0, hT, k1, k2, k3, k4, k5, k6, k7, k8⟩ := id hSt
  have han : a < n := zso_n (t := t) (by clear hb; omega)
  have h400 := hT.1
  have hb2 : b = -1 ∨ ∃ k : Nat, b = k ∧ k < 120 := hb.elim Or.inl (fun ⟨k, e, r⟩ => Or.inr ⟨k, e, by omega⟩)
  refine zc_riL hSt hd hit (by omega) hb2 han hso (fun G' mG hfr hSt' g149 g150 g151 g153 g152 g154 gl => ?_)
  obtain ⟨e1, e2⟩ := zLk_fr (l := l) hb hfr
  have hen := zen_b (t := t) han
  have hsk := zsk_b (t := t) hen.2
  obtain ⟨i8, i1, i2, i3, i4, i5, i6, i7⟩ := zso_i (t := t) (n := n) (a := a)
  have gl' : ∀ k : Nat, b = k → zA G' 151 (120 + k) = it := fun k q => gl k q (by
    rcases hb with r | ⟨k', r1, r2⟩
    · omega
    · omega)
  clear hb hb2
  rcases hso with hs | hs
  · obtain ⟨j1, j2, j3⟩ := i1.mp hs
    have ee := (zso_1 (n := n) (a := a) (t := t) (by omega) ⟨j2, j3⟩).2
    rw [ee] at hSt' hsk
    obtain ⟨f1, q1, q2⟩ := zat_n hf k2 hR han rfl ⟨j2, j3⟩ (fun r => hnn ⟨hs, by omega⟩) (by omega)
    obtain ⟨f2, q3, q4⟩ := zprs_k (by omega) q1 q2
    refine h1 G' (zsk t n (a + 1)) (it + 1) l f2 w (zlfI m (124 + (t a - 65).toNat)) mG hSt' (by omega) (by omega) (by omega) (by omega) (by omega) hws (zwx_r w) (by rw [zlfI_f]; exact q4) q3 (zlfI_r m (Or.inr ⟨by omega, by omega, ?_, ?_⟩)) (zlfI_o m (Or.inr ⟨by omega, by omega⟩)) g151 g154 gl' e1 e2
    · rw [g149, if_neg (by omega), if_pos hs]
    · rw [g150 hs]; omega
  · obtain ⟨j1, j2, j3⟩ := i2.mp hs
    have ee := (zso_w (n := n) (a := a) (t := t) (by omega) j2).2
    rw [ee] at hSt' hsk hen
    obtain ⟨f1, q1, q2⟩ := zat_w hf k2 hR han rfl j2 j3 (by omega)
    obtain ⟨f2, q3, q4⟩ := zprs_k (by omega) q1 q2
    obtain ⟨x1, x2, x3, x4, x5⟩ := zadw_x (t := t) (p := a) (s := zwe t n a - a) (w := w)
    have xs12 : ∀ x : Nat, x < (zadw t a (zwe t n a - a) w).1 → ((zadw t a (zwe t n a - a) w).2 x).2 ≤ 12 := by
      intro x hx
      by_cases q : x < w.1
      · rw [x1.2 x q]; exact hws x q
      · have z := (zfi_p (P := zsw2 t w.2 a (zwe t n a - a)) w.1).1
        have hx2 : zfi (zsw2 t w.2 a (zwe t n a - a)) w.1 = x := by
          unfold zadw at hx x2
          by_cases q5 : zfi (zsw2 t w.2 a (zwe t n a - a)) w.1 < w.1
          · rw [zcif_p q5] at hx; omega
          · rw [zcif_n q5] at hx
            have hx : x < w.1 + 1 := hx
            omega
        rw [hx2] at x4
        omega
    have z := (zfi_p (P := zsw2 t w.2 a (zwe t n a - a)) w.1).1
    refine h1 G' (zsk t n (zwe t n a)) (it + 1) l f2 _ (zlfI m (zfi (zsw2 t w.2 a (zwe t n a - a)) w.1)) mG hSt' (by omega) (by omega) (by omega) (by omega) (by omega) xs12 x1 (by rw [zlfI_f]; exact q4) q3 (zlfI_r m (Or.inl ⟨by omega, x3, ?_, ?_, fun j hj => ?_⟩)) (zlfI_o m (Or.inl ⟨x3, by omega⟩)) g151 g154 gl' e1 e2
    · rw [g149, if_pos hs]
    · rw [g153, if_pos hs, x4]
    · rw [x4] at hj
      rw [g152 hs j hj, x5 j hj]
