/-! ===== manners: trees of items ===== -/
/-- an item with n more levels of brackets at most: a token, or rows in brackets -/
def zIt : Nat → Type
  | 0 => Nat
  | n + 1 => Nat ⊕ List (List (zIt n))
/-- rows of items as tokens -/
def zfRow {α : Type} (f : α → List Nat) : List α → List Nat
  | [] => []
  | i :: r => f i ++ zfRow f r
def zfRs {α : Type} (f : α → List Nat) : List (List α) → List Nat
  | [] => []
  | [r] => zfRow f r
  | r :: q :: rs => zfRow f r ++ 121 :: zfRs f (q :: rs)
def zfI : (n : Nat) → zIt n → List Nat
  | 0 => fun (x : Nat) => [x]
  | n + 1 => fun (it : Nat ⊕ List (List (zIt n))) => match it with
    | Sum.inl x => [x]
    | Sum.inr rs => 120 :: (zfRs (zfI n) rs ++ [122])
/-- a tree is right: leaves are words or names, brackets have rows -/
def zokRow {α : Type} (f : α → Prop) : List α → Prop
  | [] => True
  | i :: r => f i ∧ zokRow f r
def zokRs {α : Type} (f : α → Prop) : List (List α) → Prop
  | [] => False
  | [r] => zokRow f r
  | r :: q :: rs => zokRow f r ∧ zokRs f (q :: rs)
def zlf (x : Nat) : Prop := x < 120 ∨ (124 ≤ x ∧ x < 132)
def zokI (P : Nat → Prop) : (n : Nat) → zIt n → Prop
  | 0 => fun (x : Nat) => P x
  | n + 1 => fun (it : Nat ⊕ List (List (zIt n))) => match it with
    | Sum.inl x => P x
    | Sum.inr rs => zokRs (zokI P n) rs
/-- what a tree does: tokens act on a state, rows are joined -/
def zsRow {α S : Type} (g : α → S → S) : List α → S → S
  | [], s => s
  | i :: r, s => zsRow g r (g i s)
def zsRs {α S : Type} (jn : S → S → S) (g : α → S → S) : List (List α) → S → S → S
  | [], _, a => a
  | r :: rs, s, a => zsRs jn g rs s (jn a (zsRow g r s))
def zsI {S : Type} (tk : Nat → S → S) (jn : S → S → S) : (n : Nat) → zIt n → S → S
  | 0 => fun (x : Nat) => tk x
  | n + 1 => fun (it : Nat ⊕ List (List (zIt n))) => match it with
    | Sum.inl x => tk x
    | Sum.inr rs => fun s => zsRs jn (zsI tk jn n) rs s s
/-- tokens stand at a place -/
def zat (tok : Nat → Nat) : Nat → List Nat → Prop
  | _, [] => True
  | i, x :: l => tok i = x ∧ zat tok (i + 1) l
theorem zat_app {tok : Nat → Nat} : ∀ (l m : List Nat) (i : Nat), zat tok i (l ++ m) ↔ zat tok i l ∧ zat tok (i + l.length) m
  | [], m, i => by
    show zat tok i m ↔ True ∧ zat tok (i + 0) m
    rw [Nat.add_zero]; exact ⟨fun h => ⟨trivial, h⟩, fun h => h.2⟩
  | x :: l, m, i => by
    have ih := zat_app (tok := tok) l m (i + 1)
    show (tok i = x ∧ zat tok (i + 1) (l ++ m)) ↔ (tok i = x ∧ zat tok (i + 1) l) ∧ zat tok (i + (l.length + 1)) m
    rw [ih, show i + 1 + l.length = i + (l.length + 1) by omega]
    exact ⟨fun h => ⟨⟨h.1, h.2.1⟩, h.2.2⟩, fun h => ⟨h.1.1, h.1.2, h.2⟩⟩
def zuq {S : Type} (h : Nat → S) (l : Nat) (s : S) (m : Nat) : S := if m = l then s else h m
theorem zuq_e {S : Type} {h : Nat → S} {l : Nat} {s : S} : zuq h l s l = s := if_pos rfl
theorem zuq_n {S : Type} {h : Nat → S} {l m : Nat} {s : S} (q : m ≠ l) : zuq h l s m = h m := if_neg q
/-- the class's machine over tokens: what each kind of token does to the levels -/
def zStep {S : Type} (tk : Nat → S → S) (jn : S → S → S) (init : S) (tok : Nat → Nat) (Z : Nat → Nat → (Nat → S) → (Nat → S) → Prop) : Prop :=
  (∀ (i l : Nat) (h d : Nat → S), l ≤ 4 → zlf (tok i) → Z (i + 1) l (zuq h l (tk (tok i) (h l))) d → Z i l h d) ∧
  (∀ (i l : Nat) (h d : Nat → S), l < 4 → tok i = 120 → Z (i + 1) (l + 1) (zuq h (l + 1) (h l)) (zuq d (l + 1) (h l)) → Z i l h d) ∧
  (∀ (i l : Nat) (h d : Nat → S), l ≤ 4 → tok i = 121 → Z (i + 1) l (zuq h l (if l = 0 then init else h (l - 1))) (zuq d l (jn (d l) (h l))) → Z i l h d) ∧
  (∀ (i l : Nat) (h d : Nat → S), l < 4 → tok i = 122 → Z (i + 1) l (zuq h l (jn (d (l + 1)) (h (l + 1)))) (zuq d (l + 1) (jn (d (l + 1)) (h (l + 1)))) → Z i (l + 1) h d)
/-- what an item does to the machine -/
def zMi2 {S α : Type} (Z : Nat → Nat → (Nat → S) → (Nat → S) → Prop) (tok : Nat → Nat) (L : Nat) (f : α → List Nat) (g : α → S → S) (a : α) : Prop :=
  ∀ (i l : Nat) (h d : Nat → S), l ≤ L → zat tok i (f a) → (∀ h' d' : Nat → S, h' l = g a (h l) → (∀ m : Nat, m < l → h' m = h m) → (∀ m : Nat, m ≤ l → d' m = d m) → Z (i + (f a).length) l h' d') → Z i l h d
theorem zMrow {S α : Type} {Z : Nat → Nat → (Nat → S) → (Nat → S) → Prop} {tok : Nat → Nat} {L : Nat} {f : α → List Nat} {g : α → S → S} {ok : α → Prop} (hi : ∀ a : α, ok a → zMi2 Z tok L f g a) : ∀ r : List α, zokRow ok r → zMi2 Z tok L (zfRow f) (zsRow g) r
  | [], _ => fun i l h d _ _ k => k h d rfl (fun _ _ => rfl) (fun _ _ => rfl)
  | a :: r, hok => fun i l h d hl hat k => by
    have hat : zat tok i (f a ++ zfRow f r) := hat
    rw [zat_app] at hat
    refine hi a hok.1 i l h d hl hat.1 (fun h' d' e1 e2 e3 => ?_)
    refine zMrow hi r hok.2 (i + (f a).length) l h' d' hl hat.2 (fun h2 d2 q1 q2 q3 => ?_)
    have hlen : (zfRow f (a :: r)).length = (f a).length + (zfRow f r).length := by
      show (f a ++ zfRow f r).length = _
      rw [List.length_append]
    have := k h2 d2 (by rw [q1, e1]; rfl) (fun m hm => (q2 m hm).trans (e2 m hm)) (fun m hm => (q3 m hm).trans (e3 m hm))
    rw [hlen] at this
    rw [Nat.add_assoc]
    exact this
/-- rows at a level: what is joined stands at the end in both -/
theorem zMrs {S α : Type} {tk : Nat → S → S} {jn : S → S → S} {init : S} {Z : Nat → Nat → (Nat → S) → (Nat → S) → Prop} {tok : Nat → Nat} {L : Nat} {f : α → List Nat} {g : α → S → S} {ok : α → Prop} (hS : zStep tk jn init tok Z) (hL : L ≤ 4) (hi : ∀ a : α, ok a → zMi2 Z tok L f g a) : ∀ rs : List (List α), zokRs ok rs → ∀ (i l : Nat) (h d : Nat → S) (s : S), l ≤ L → h l = s → (if l = 0 then init else h (l - 1)) = s → zat tok i (zfRs f rs) → (∀ h' d' : Nat → S, (∀ m : Nat, m < l → h' m = h m) → (∀ m : Nat, m < l → d' m = d m) → jn (d' l) (h' l) = zsRs jn g rs s (d l) → Z (i + (zfRs f rs).length) l h' d') → Z i l h d
  | [], hok => hok.elim
  | [r], hok => fun i l h d s hl e0 e1 hat k => by
    refine zMrow hi r hok i l h d hl hat (fun h' d' q1 q2 q3 => ?_)
    refine k h' d' q2 (fun m hm => q3 m (by omega)) ?_
    rw [q3 l (Nat.le_refl _), q1, e0]
    rfl
  | r :: q :: rs, hok => fun i l h d s hl e0 e1 hat k => by
    have hat : zat tok i (zfRow f r ++ 121 :: zfRs f (q :: rs)) := hat
    rw [zat_app] at hat
    obtain ⟨hat1, hat2, hat3⟩ := hat
    refine zMrow hi r hok.1 i l h d hl hat1 (fun h' d' q1 q2 q3 => ?_)
    refine hS.2.2.1 _ l h' d' (by omega) hat2 ?_
    have eb : (if l = 0 then init else h' (l - 1)) = s := by
      rw [← e1]
      by_cases q0 : l = 0
      · rw [if_pos q0, if_pos q0]
      · rw [if_neg q0, if_neg q0]; exact q2 (l - 1) (by omega)
    refine zMrs hS hL hi (q :: rs) hok.2 _ l _ _ s hl (by rw [zuq_e]; exact eb) ?_ hat3 (fun h2 d2 p1 p2 p3 => ?_)
    · by_cases q0 : l = 0
      · rw [if_pos q0]; rw [if_pos q0] at eb; exact eb
      · rw [if_neg q0, zuq_n (by omega)]; rw [if_neg q0] at eb; exact eb
    · have hlen : (zfRs f (r :: q :: rs)).length = (zfRow f r).length + 1 + (zfRs f (q :: rs)).length := by
        show (zfRow f r ++ 121 :: zfRs f (q :: rs)).length = _
        rw [List.length_append, List.length_cons]; omega
      have := k h2 d2 (fun m hm => by rw [p1 m hm, zuq_n (by omega)]; exact q2 m hm) (fun m hm => by rw [p2 m hm, zuq_n (by omega)]; exact q3 m (by omega)) (by
        rw [p3, zuq_e, q3 l (Nat.le_refl _), q1, e0]
        rfl)
      rw [hlen] at this
      rw [show i + (zfRow f r).length + 1 + (zfRs f (q :: rs)).length = i + ((zfRow f r).length + 1 + (zfRs f (q :: rs)).length) by omega]
      exact this
theorem zMit {S : Type} {P : Nat → Prop} (hP : ∀ x : Nat, P x → zlf x) {tk : Nat → S → S} {jn : S → S → S} {init : S} {Z : Nat → Nat → (Nat → S) → (Nat → S) → Prop} {tok : Nat → Nat} (hS : zStep tk jn init tok Z) : ∀ (n L : Nat), L + n ≤ 4 → ∀ it : zIt n, zokI P n it → zMi2 Z tok L (zfI n) (zsI tk jn n) it
  | 0, L, hL => fun (x : Nat) hok i l h d hl hat k => by
    have hx : tok i = x := hat.1
    refine hS.1 i l h d (by omega) (by rw [hx]; exact hP _ hok) (k _ _ ?_ (fun m hm => zuq_n (by omega)) (fun _ _ => rfl))
    rw [zuq_e, hx]
    rfl
  | n + 1, L, hL => fun (it : Nat ⊕ List (List (zIt n))) hok i l h d hl hat k => by
    match it, hok, hat, k with
    | Sum.inl x, hok, hat, k =>
      have hx : tok i = x := hat.1
      refine hS.1 i l h d (by omega) (by rw [hx]; exact hP _ hok) (k _ _ ?_ (fun m hm => zuq_n (by omega)) (fun _ _ => rfl))
      rw [zuq_e, hx]
      rfl
    | Sum.inr rs, hok, hat, k =>
      have hat : tok i = 120 ∧ zat tok (i + 1) (zfRs (zfI n) rs ++ [122]) := hat
      obtain ⟨h1, h2⟩ := hat
      rw [zat_app] at h2
      refine hS.2.1 i l h d (by omega) h1 ?_
      refine zMrs hS (L := L + 1) (by omega) (zMit hP hS n (L + 1) (by omega)) rs hok (i + 1) (l + 1) _ _ (h l) (by omega) zuq_e ?_ h2.1 (fun h' d' p1 p2 p3 => ?_)
      · rw [if_neg (by omega), zuq_n (by omega)]; rfl
      · refine hS.2.2.2 _ l h' d' (by omega) h2.2.1 ?_
        have hlen : (zfI (n + 1) (Sum.inr rs)).length = 1 + (zfRs (zfI n) rs).length + 1 := by
          show (120 :: (zfRs (zfI n) rs ++ [122])).length = _
          rw [List.length_cons, List.length_append]; simp; omega
        have := k (zuq h' l (jn (d' (l + 1)) (h' (l + 1)))) (zuq d' (l + 1) (jn (d' (l + 1)) (h' (l + 1)))) (by
          rw [zuq_e, p3, zuq_e]; rfl) (fun m hm => by rw [zuq_n (by omega), p1 m (by omega), zuq_n (by omega)]) (fun m hm => by rw [zuq_n (by omega), p2 m (by omega), zuq_n (by omega)])
        have e : i + (zfI (n + 1) (Sum.inr rs)).length = i + 1 + (zfRs (zfI n) rs).length + 1 := by rw [hlen]; omega
        rw [e] at this
        exact this
