/-! ===== the abstract heap beside the machine's ===== -/
theorem z32_i {x : Int} (h : z32 x) : (Int32.ofInt x).toInt = x := by
  obtain ⟨h1, h2⟩ := h
  exact Int32.toInt_ofInt_of_le (by omega) (by omega)
theorem z64_i {x : Int} (h : z64 x) : (Int64.ofInt x).toInt = x := by
  obtain ⟨h1, h2⟩ := h
  exact Int64.toInt_ofInt_of_le (by omega) (by omega)
theorem z32_o (a : Int32) : z32 a.toInt := ⟨by have := Int32.le_toInt a; omega, by have := Int32.toInt_lt a; omega⟩
theorem z64_o (a : Int64) : z64 a.toInt := ⟨by have := Int64.le_toInt a; omega, by have := Int64.toInt_lt a; omega⟩
theorem zoi (a : Int32) : Int32.ofInt a.toInt = a := Int32.ofInt_toInt a
theorem zoj (a : Int64) : Int64.ofInt a.toInt = a := Int64.ofInt_toInt a
theorem z32_inj {x y : Int} (hx : z32 x) (hy : z32 y) : Int32.ofInt x = Int32.ofInt y ↔ x = y := ⟨fun h => by rw [← z32_i hx, ← z32_i hy, h], fun h => by rw [h]⟩
theorem z32_lt {x y : Int} (hx : z32 x) (hy : z32 y) : Int32.ofInt x < Int32.ofInt y ↔ x < y := by rw [Int32.lt_iff_toInt_lt, z32_i hx, z32_i hy]
theorem z32_le {x y : Int} (hx : z32 x) (hy : z32 y) : Int32.ofInt x ≤ Int32.ofInt y ↔ x ≤ y := by rw [Int32.le_iff_toInt_le, z32_i hx, z32_i hy]
theorem z64_inj {x y : Int} (hx : z64 x) (hy : z64 y) : Int64.ofInt x = Int64.ofInt y ↔ x = y := ⟨fun h => by rw [← z64_i hx, ← z64_i hy, h], fun h => by rw [h]⟩
theorem z64_lt {x y : Int} (hx : z64 x) (hy : z64 y) : Int64.ofInt x < Int64.ofInt y ↔ x < y := by rw [Int64.lt_iff_toInt_lt, z64_i hx, z64_i hy]
theorem z32_0 : z32 0 := ⟨by decide, by decide⟩
theorem zof0 : Int32.ofInt 0 = 0 := rfl
theorem zof_add (x y : Int) : Int32.ofInt (x + y) = Int32.ofInt x + Int32.ofInt y := Int32.ofInt_add x y
theorem zof_sub (x y : Int) : Int32.ofInt (x - y) = Int32.ofInt x - Int32.ofInt y := Int32.ofInt_sub x y
theorem zof_mul (x y : Int) : Int32.ofInt (x * y) = Int32.ofInt x * Int32.ofInt y := Int32.ofInt_mul x y
theorem zof_addL (x y : Int) : Int64.ofInt (x + y) = Int64.ofInt x + Int64.ofInt y := Int64.ofInt_add x y
theorem zof_mulL (x y : Int) : Int64.ofInt (x * y) = Int64.ofInt x * Int64.ofInt y := Int64.ofInt_mul x y
theorem zof_div {x y : Int} (hx : z32 x) (hy : z32 y) : Int32.ofInt (x.tdiv y) = Int32.ofInt x / Int32.ofInt y := by
  apply Int32.toInt_inj.mp
  rw [Int32.toInt_ofInt, Int32.toInt_div, z32_i hx, z32_i hy]
  try rfl
theorem zof_mod {x y : Int} (hx : z32 x) (hy : z32 y) : Int32.ofInt (x.tmod y) = Int32.ofInt x % Int32.ofInt y := by
  rw [← zoi (Int32.ofInt x % Int32.ofInt y), Int32.toInt_mod, z32_i hx, z32_i hy]
theorem zof_divL {x y : Int} (hx : z64 x) (hy : z64 y) : Int64.ofInt (x.tdiv y) = Int64.ofInt x / Int64.ofInt y := by
  apply Int64.toInt_inj.mp
  rw [Int64.toInt_ofInt, Int64.toInt_div, z64_i hx, z64_i hy]
  try rfl
theorem zof_modL {x y : Int} (hx : z64 x) (hy : z64 y) : Int64.ofInt (x.tmod y) = Int64.ofInt x % Int64.ofInt y := by
  rw [← zoj (Int64.ofInt x % Int64.ofInt y), Int64.toInt_mod, z64_i hx, z64_i hy]
theorem z32_mod {x y : Int} (hx : z32 x) (hy : z32 y) : z32 (x.tmod y) := by
  have h := z32_o (Int32.ofInt x % Int32.ofInt y)
  rwa [Int32.toInt_mod, z32_i hx, z32_i hy] at h
theorem z64_mod {x y : Int} (hx : z64 x) (hy : z64 y) : z64 (x.tmod y) := by
  have h := z64_o (Int64.ofInt x % Int64.ofInt y)
  rwa [Int64.toInt_mod, z64_i hx, z64_i hy] at h
theorem z32_64 {x : Int} (h : z32 x) : z64 x := ⟨by have := h.1; omega, by have := h.2; omega⟩
theorem zi2l {x : Int} (h : z32 x) : (Int32.ofInt x).toInt64 = Int64.ofInt x := by
  rw [← zoj (Int32.ofInt x).toInt64, Int32.toInt_toInt64, z32_i h]
theorem zl2i {x : Int} (h : z64 x) : (Int64.ofInt x).toInt32 = Int32.ofInt x := by
  apply Int32.toInt_inj.mp
  rw [Int32.toInt_ofInt, Int64.toInt_toInt32, z64_i h]
  try rfl
theorem z_in {i : Int} {n : Nat} (h0 : 0 ≤ i) (h1 : i < n) (hn : n ≤ 1000000) : vp_in (Int32.ofInt i) n ∧ (Int32.ofInt i).toNatClampNeg = i.toNat := by
  have h : z32 i := ⟨by omega, by omega⟩
  refine ⟨vp_in_iff.mpr ?_, ?_⟩
  · rw [z32_i h]
    exact ⟨h0, h1⟩
  · rw [← Int32.toNat_toInt, z32_i h]
theorem z_ge {i : Int} (h0 : 0 ≤ i) (h1 : i ≤ 1000000) : ¬ Int32.ofInt i < 0 ∧ (Int32.ofInt i).toNatClampNeg = i.toNat := by
  have h : z32 i := ⟨by omega, by omega⟩
  refine ⟨?_, ?_⟩
  · rw [show (0 : Int32) = Int32.ofInt 0 from rfl, z32_lt h z32_0]
    omega
  · rw [← Int32.toNat_toInt, z32_i h]
theorem zne0 {y : Int} (h : z32 y) (hn : y ≠ 0) : ¬ Int32.ofInt y = 0 := fun e => hn ((z32_inj h z32_0).mp e)
theorem zne0L {y : Int} (h : z64 y) (hn : y ≠ 0) : ¬ Int64.ofInt y = 0 := fun e => hn ((z64_inj h (z32_64 z32_0)).mp e)

-- the cells
def zv (ρ : Nat → Nat) (v : zV) : Value := match v with
  | .inl x => .int (Int32.ofInt x)
  | .inr (.inl x) => .long (Int64.ofInt x)
  | .inr (.inr r) => va_rf (r.map ρ)
/-- a value that can be -/
def zvo (n : Nat) (v : zV) : Prop := match v with
  | .inl x => z32 x
  | .inr (.inl x) => z64 x
  | .inr (.inr r) => ∀ a, r = some a → a < n
/-- what stands at a place of a cell of a kind: 0 int, 1 long, 2 a reference, 3 boolean, 4 byte -/
def zet (K j : Nat) : Nat := if K < 100 then zft K j else if K = 103 then 1 else if K = 104 then 2 else if K = 102 then 3 else if K = 101 then 4 else 0
def zok1 (n t : Nat) (x : Int) (r : Option Nat) : Prop := match t with
  | 0 => z32 x
  | 1 => z64 x
  | 2 => ∀ a, r = some a → a < n
  | 3 => 0 ≤ x ∧ x ≤ 1
  | _ => -128 ≤ x ∧ x ≤ 127
def zsh (K N : Nat) : Prop := (K < 13 ∧ N = znf K) ∨ (100 ≤ K ∧ K ≤ 104 ∧ N ≤ 1000000)
def zgo (H : zH) : Prop := 1 ≤ zS H ∧ zK H 0 = 999 ∧ (∀ a, 1 ≤ a → a < zS H → zsh (zK H a) (zN H a) ∧ ∀ j, j < zN H a → zok1 (zS H) (zet (zK H a) j) (zA H a j) (zR H a j)) ∧ ∀ a, a < zS H → zK H a = 104 → ∀ k, zN H a ≤ k → zR H a k = none
def zfv (ρ : Nat → Nat) (H : zH) (a k : Nat) : Value := if zft (zK H a) k = 2 then va_rf ((zR H a k).map ρ) else if zft (zK H a) k = 1 then .long (Int64.ofInt (zA H a k)) else .int (Int32.ofInt (zA H a k))
def zce (cA : Nat → ClassId) (ρ : Nat → Nat) (H : zH) (a : Nat) : va_E :=
  if zK H a = 104 then .inl (cA 4, zN H a, .inr (.inr (.inr (.inr (fun j => (zR H a j).map ρ)))))
  else if zK H a = 103 then .inl (cA 3, zN H a, .inr (.inl (fun j => Int64.ofInt (zA H a j))))
  else if 100 ≤ zK H a then .inl (cA (zK H a - 100), zN H a, .inl (fun j => Int32.ofInt (zA H a j)))
  else .inr (zK H a, (List.range (zN H a)).map (zfv ρ H a))
def zw (cA : Nat → ClassId) (ρ : Nat → Nat) (H : zH) : va_W := (List.range (zS H - 1)).map (fun i => (ρ (i + 1), zce cA ρ H (i + 1)))
def zty (cA : Nat → ClassId) : List (ClassId × FieldType) := [(cA 0, .int), (cA 1, .byte), (cA 2, .boolean), (cA 3, .long), (cA 4, .object "StagePair$Shapes")]
theorem zw_at {cA : Nat → ClassId} {ρ : Nat → Nat} {H : zH} {a : Nat} (h1 : 1 ≤ a) (h2 : a < zS H) : (zw cA ρ H)[a - 1]? = some (ρ a, zce cA ρ H a) := by
  unfold zw
  rw [List.getElem?_map, List.getElem?_range (by omega)]
  simp only [Option.map_some]
  rw [Nat.sub_add_cancel h1]
theorem zw_len (cA : Nat → ClassId) (ρ : Nat → Nat) (H : zH) : (zw cA ρ H).length = zS H - 1 := by simp [zw]
/-- one cell has changed -/
theorem zw_set {cA : Nat → ClassId} {ρ : Nat → Nat} {H H' : zH} {a : Nat} (h1 : 1 ≤ a) (h2 : a < zS H) (hs : zS H' = zS H) (ho : ∀ b, b ≠ a → zce cA ρ H' b = zce cA ρ H b) : zw cA ρ H' = (zw cA ρ H).set (a - 1) (ρ a, zce cA ρ H' a) := by
  apply List.ext_getElem?
  intro i
  rw [List.getElem?_set, zw_len]
  by_cases hi : a - 1 = i
  · rw [if_pos hi, if_pos (by omega)]
    rw [show i = a - 1 from hi.symm]
    exact zw_at h1 (by omega)
  · rw [if_neg hi]
    by_cases hl : i < zS H - 1
    · have e1 := zw_at (cA := cA) (ρ := ρ) (H := H') (a := i + 1) (by omega) (by omega)
      have e2 := zw_at (cA := cA) (ρ := ρ) (H := H) (a := i + 1) (by omega) (by omega)
      rw [Nat.add_sub_cancel] at e1 e2
      rw [e1, e2, ho (i + 1) (by omega)]
    · rw [List.getElem?_eq_none (by rw [zw_len]; omega), List.getElem?_eq_none (by rw [zw_len]; omega)]
/-- one cell more; the old ones as they were, at the same places -/
theorem zw_push {cA : Nat → ClassId} {ρ ρ' : Nat → Nat} {H H' : zH} (h1 : 1 ≤ zS H) (hs : zS H' = zS H + 1) (hr : ∀ b, b < zS H → ρ' b = ρ b) (ho : ∀ b, 1 ≤ b → b < zS H → zce cA ρ' H' b = zce cA ρ H b) : zw cA ρ' H' = zw cA ρ H ++ [(ρ' (zS H), zce cA ρ' H' (zS H))] := by
  apply List.ext_getElem?
  intro i
  by_cases hl : i < zS H - 1
  · rw [List.getElem?_append_left (by rw [zw_len]; exact hl)]
    have e1 := zw_at (cA := cA) (ρ := ρ') (H := H') (a := i + 1) (by omega) (by omega)
    have e2 := zw_at (cA := cA) (ρ := ρ) (H := H) (a := i + 1) (by omega) (by omega)
    rw [Nat.add_sub_cancel] at e1 e2
    rw [e1, e2, ho (i + 1) (by omega) (by omega), hr (i + 1) (by omega)]
  · rw [List.getElem?_append_right (by rw [zw_len]; omega), zw_len]
    by_cases hi : i = zS H - 1
    · subst hi
      have e1 := zw_at (cA := cA) (ρ := ρ') (H := H') (a := zS H) (by omega) (by omega)
      rw [e1]
      simp
    · rw [List.getElem?_eq_none (by rw [zw_len]; omega), List.getElem?_eq_none (by simp; omega)]
theorem zce_int {cA : Nat → ClassId} {ρ : Nat → Nat} {H : zH} {a : Nat} (h : zK H a = 100) : zce cA ρ H a = .inl (cA 0, zN H a, .inl (fun j => Int32.ofInt (zA H a j))) := by simp [zce, h]
theorem zce_byte {cA : Nat → ClassId} {ρ : Nat → Nat} {H : zH} {a : Nat} (h : zK H a = 101) : zce cA ρ H a = .inl (cA 1, zN H a, .inl (fun j => Int32.ofInt (zA H a j))) := by simp [zce, h]
theorem zce_bool {cA : Nat → ClassId} {ρ : Nat → Nat} {H : zH} {a : Nat} (h : zK H a = 102) : zce cA ρ H a = .inl (cA 2, zN H a, .inl (fun j => Int32.ofInt (zA H a j))) := by simp [zce, h]
theorem zce_long {cA : Nat → ClassId} {ρ : Nat → Nat} {H : zH} {a : Nat} (h : zK H a = 103) : zce cA ρ H a = .inl (cA 3, zN H a, .inr (.inl (fun j => Int64.ofInt (zA H a j)))) := by simp [zce, h]
theorem zce_ref {cA : Nat → ClassId} {ρ : Nat → Nat} {H : zH} {a : Nat} (h : zK H a = 104) : zce cA ρ H a = .inl (cA 4, zN H a, .inr (.inr (.inr (.inr (fun j => (zR H a j).map ρ))))) := by simp [zce, h]
theorem zce_obj {cA : Nat → ClassId} {ρ : Nat → Nat} {H : zH} {a : Nat} (h : zK H a < 13) : zce cA ρ H a = .inr (zK H a, (List.range (zN H a)).map (zfv ρ H a)) := by
  unfold zce
  rw [if_neg (by omega), if_neg (by omega), if_neg (by omega)]
theorem zgo_lt {H : zH} {a : Nat} (hg : zgo H) (ha : a < zS H) (hk : zK H a ≠ 999) : 1 ≤ a := by
  rcases Nat.eq_zero_or_pos a with h | h
  · subst h
    exact absurd hg.2.1 hk
  · exact h
-- writing
theorem zS_wA (H : zH) (a j : Nat) (x : Int) : zS (zwA H a j x) = zS H := rfl
theorem zK_wA (H : zH) (a j : Nat) (x : Int) (b : Nat) : zK (zwA H a j x) b = zK H b := rfl
theorem zN_wA (H : zH) (a j : Nat) (x : Int) (b : Nat) : zN (zwA H a j x) b = zN H b := rfl
theorem zR_wA (H : zH) (a j : Nat) (x : Int) (b k : Nat) : zR (zwA H a j x) b k = zR H b k := rfl
theorem zA_wA (H : zH) (a j : Nat) (x : Int) (b k : Nat) : zA (zwA H a j x) b k = if b = a ∧ k = j then x else zA H b k := rfl
theorem zS_wR (H : zH) (a j : Nat) (x : Option Nat) : zS (zwR H a j x) = zS H := rfl
theorem zK_wR (H : zH) (a j : Nat) (x : Option Nat) (b : Nat) : zK (zwR H a j x) b = zK H b := rfl
theorem zN_wR (H : zH) (a j : Nat) (x : Option Nat) (b : Nat) : zN (zwR H a j x) b = zN H b := rfl
theorem zA_wR (H : zH) (a j : Nat) (x : Option Nat) (b k : Nat) : zA (zwR H a j x) b k = zA H b k := rfl
theorem zR_wR (H : zH) (a j : Nat) (x : Option Nat) (b k : Nat) : zR (zwR H a j x) b k = if b = a ∧ k = j then x else zR H b k := rfl
theorem zS_cp (H : zH) (a sp b dp n : Nat) : zS (zcp H a sp b dp n) = zS H := rfl
theorem zK_cp (H : zH) (a sp b dp n c : Nat) : zK (zcp H a sp b dp n) c = zK H c := rfl
theorem zN_cp (H : zH) (a sp b dp n c : Nat) : zN (zcp H a sp b dp n) c = zN H c := rfl
theorem zR_cp (H : zH) (a sp b dp n c k : Nat) : zR (zcp H a sp b dp n) c k = zR H c k := rfl
theorem zA_cp (H : zH) (a sp b dp n c k : Nat) : zA (zcp H a sp b dp n) c k = if c = b ∧ dp ≤ k ∧ k < dp + n then zA H a (sp + (k - dp)) else zA H c k := rfl
theorem zS_nw (H : zH) (kd len : Nat) : zS (znw H kd len) = zS H + 1 := rfl
theorem zK_nw (H : zH) (kd len b : Nat) : zK (znw H kd len) b = if b = zS H then kd else zK H b := by
  show (if b = H.1 then (kd, len) else H.2.1 b).1 = _
  split <;> simp_all [zS, zK]
theorem zN_nw (H : zH) (kd len b : Nat) : zN (znw H kd len) b = if b = zS H then len else zN H b := by
  show (if b = H.1 then (kd, len) else H.2.1 b).2 = _
  split <;> simp_all [zS, zN]
theorem zA_nw (H : zH) (kd len b k : Nat) : zA (znw H kd len) b k = if b = zS H then 0 else zA H b k := rfl
theorem zR_nw (H : zH) (kd len b k : Nat) : zR (znw H kd len) b k = if b = zS H then none else zR H b k := rfl
/-- a cell's picture by what it holds -/
theorem zce_congr {cA : Nat → ClassId} {ρ ρ' : Nat → Nat} {H H' : zH} {a : Nat} (hk : zK H' a = zK H a) (hn : zN H' a = zN H a) (hA : ∀ j, zA H' a j = zA H a j) (hR : ∀ j, (zR H' a j).map ρ' = (zR H a j).map ρ) : zce cA ρ' H' a = zce cA ρ H a := by
  unfold zce zfv
  simp only [hk, hn, hA, hR]
theorem zce_wA {cA : Nat → ClassId} {ρ : Nat → Nat} {H : zH} {a j : Nat} {x : Int} {b : Nat} (hb : b ≠ a) : zce cA ρ (zwA H a j x) b = zce cA ρ H b :=
  zce_congr rfl rfl (fun k => by rw [zA_wA, if_neg (fun h => hb h.1)]) (fun k => rfl)
theorem zce_wR {cA : Nat → ClassId} {ρ : Nat → Nat} {H : zH} {a j : Nat} {x : Option Nat} {b : Nat} (hb : b ≠ a) : zce cA ρ (zwR H a j x) b = zce cA ρ H b :=
  zce_congr rfl rfl (fun k => rfl) (fun k => by rw [zR_wR, if_neg (fun h => hb h.1)])
theorem zce_cp {cA : Nat → ClassId} {ρ : Nat → Nat} {H : zH} {a sp b dp n c : Nat} (hb : c ≠ b) : zce cA ρ (zcp H a sp b dp n) c = zce cA ρ H c :=
  zce_congr rfl rfl (fun k => by rw [zA_cp, if_neg (fun h => hb h.1)]) (fun k => rfl)
theorem zgo_wA {H : zH} {a j : Nat} {x : Int} (hg : zgo H) (hx : zok1 (zS H) (zet (zK H a) j) x (zR H a j)) : zgo (zwA H a j x) := by
  refine ⟨hg.1, hg.2.1, fun b h1 h2 => ⟨(hg.2.2.1 b h1 h2).1, fun k hk => ?_⟩, hg.2.2.2⟩
  rw [zA_wA, zR_wA, zK_wA, zS_wA]
  by_cases h : b = a ∧ k = j
  · rw [if_pos h]
    obtain ⟨rfl, rfl⟩ := h
    exact hx
  · rw [if_neg h]
    exact (hg.2.2.1 b h1 h2).2 k hk
theorem zgo_wR {H : zH} {a j : Nat} {r : Option Nat} (hg : zgo H) (hj : zK H a = 104 → j < zN H a) (hx : zok1 (zS H) (zet (zK H a) j) (zA H a j) r) : zgo (zwR H a j r) := by
  refine ⟨hg.1, hg.2.1, fun b h1 h2 => ⟨(hg.2.2.1 b h1 h2).1, fun k hk => ?_⟩, fun b hb hk k hn => ?_⟩
  case refine_2 =>
    rw [zR_wR, if_neg (fun q => ?_)]
    · exact hg.2.2.2 b hb hk k hn
    · obtain ⟨rfl, rfl⟩ := q
      have := hj hk
      have hn : zN H b ≤ k := hn
      omega
  rw [zR_wR, zA_wR, zK_wR, zS_wR]
  by_cases h : b = a ∧ k = j
  · rw [if_pos h]
    obtain ⟨rfl, rfl⟩ := h
    exact hx
  · rw [if_neg h]
    exact (hg.2.2.1 b h1 h2).2 k hk
theorem zok1_mono {n n' t : Nat} {x : Int} {r : Option Nat} (h : n ≤ n') (hx : zok1 n t x r) : zok1 n' t x r := by
  match t with
  | 0 => exact hx
  | 1 => exact hx
  | 2 => exact fun a ha => Nat.lt_of_lt_of_le (hx a ha) h
  | 3 => exact hx
  | _ + 4 => exact hx
theorem zok1_0 (n t : Nat) : zok1 n t 0 none := by
  match t with
  | 0 => exact z32_0
  | 1 => exact z32_64 z32_0
  | 2 => exact fun a ha => by cases ha
  | 3 => exact ⟨by decide, by decide⟩
  | _ + 4 => exact ⟨by decide, by decide⟩
theorem zgo_nw {H : zH} {kd len : Nat} (hg : zgo H) (hs : zsh kd len) : zgo (znw H kd len) := by
  obtain ⟨g1, g2, g3, g4⟩ := hg
  refine ⟨by rw [zS_nw]; omega, ?_, fun b h1 h2 => ?_, fun b hb hk k hn => ?_⟩
  case refine_3 =>
    rw [zR_nw]
    split
    · rfl
    next h =>
      rw [zS_nw] at hb
      rw [zK_nw, if_neg h] at hk
      rw [zN_nw, if_neg h] at hn
      exact g4 b (by omega) hk k hn
  · rw [zK_nw, if_neg (by omega)]
    exact g2
  · rw [zS_nw] at h2
    by_cases h : b = zS H
    · rw [zK_nw, zN_nw, if_pos h, if_pos h]
      refine ⟨hs, fun j _ => ?_⟩
      rw [zA_nw, zR_nw, if_pos h, if_pos h]
      exact zok1_0 _ _
    · rw [zK_nw, zN_nw, if_neg h, if_neg h]
      obtain ⟨q1, q2⟩ := g3 b h1 (by omega)
      refine ⟨q1, fun j hj => ?_⟩
      rw [zA_nw, zR_nw, if_neg h, if_neg h]
      exact zok1_mono (by rw [zS_nw]; omega) (q2 j hj)
