/-! ===== what stands where ===== -/
/-- the tables' words that stay true under warmer tables -/
def zTb : List Cond := lw_tbl.filter goodWord
theorem zTm {w : Cond} (h : w ∈ lw_tbl) (hg : goodWord w = true) : w ∈ zTb := List.mem_filter.mpr ⟨h, hg⟩
/-- the others that are needed -/
def zNK (s : State) : Prop := (∀ w ∈ lw_tbl, (∃ (a : String) (i : Nat) (x : MethodName) (h : String), w = .methodLinkNest a i x h) → va_Nw w s) ∧ va_AO "StagePair$Shapes" s
theorem zNK.warm {s U : State} (h : zNK s) (hW : s.WarmedH U.vm) : zNK U := ⟨fun w hw he => by
    obtain ⟨a, i, x, k, rfl⟩ := he
    exact va_Nw.warmM hW (h.1 _ hw ⟨a, i, x, k, rfl⟩), va_AO.moved hW.alike h.2⟩
def zCx (m : Nat) (sc : Bool) (xs : Nat → Int) (L b : Nat) (p : Program) (s : State) (M : MethodId) (args : Array Value) (meth : Method) (c : Code) (G : va_G) (cA : Nat → ClassId) (A : Nat → Prop) : Prop :=
  p.tables.exec = Jvm.exec ∧ c.code = zcc m ∧ c.maxLocals = zml m ∧ meth.sig.returnType = zre m ∧ meth.locks = false ∧ s.vm.findClass (zon m) = some M.cls ∧ (∀ w ∈ zTb, w.before args s = true) ∧ zNK s ∧ (zct m = true → meth.name = "<init>") ∧ va_K G zcl (zty cA) s ∧ (∀ q, s.heap.size ≤ q → A q) ∧ (sc = true → va_X b L (fun j => Int32.ofInt (xs j)) s s.heap ∧ b < s.heap.size ∧ ¬ A b ∧ (∀ j, z32 (xs j)) ∧ L ≤ 1000000)
def zWd (G : va_G) (cA : Nat → ClassId) (ρ : Nat → Nat) (H : zH) (A : Nat → Prop) (s : State) (Hm : Heap) (locs : List Loc) : Prop := va_P G zcl (zw cA ρ H) Hm ∧ va_D A (zw cA ρ H) ∧ va_S A s.heap Hm locs ∧ zgo H
def zLo (ρ : Nat → Nat) (n nL : Nat) (ls : zLs) (lsm : Array Slot) : Prop := ls.length = nL ∧ lsm.size = nL ∧ lv_wf lsm ∧ ∀ (i : Nat) (v : zV), ls[i]? = some (some v) → lsm[i]? = some (Slot.val (zv ρ v)) ∧ zvo n v
def zRm (d : Nat) (R : Room) : Prop := d + 1 ≤ R.frames ∧ 60 * (d + 1) ≤ R.locals
def zEn (m : Nat) (r : Int) (pc : Nat) : Prop := (zre m = none ∧ decode (zcc m) pc = .ok (.return_, 1)) ∨ (zre m = some .int ∧ z32 r ∧ decode (zcc m) pc = .ok (.ireturn, 1)) ∨ (zre m = some .boolean ∧ (0 ≤ r ∧ r ≤ 1) ∧ decode (zcc m) pc = .ok (.ireturn, 1)) ∨ (zre m = some .long ∧ z64 r ∧ decode (zcc m) pc = .ok (.lreturn, 1))
def zRt (m : Nat) (r : Int) : List Value := match zre m with
  | none => []
  | some .long => [.long (Int64.ofInt r)]
  | _ => [.int (Int32.ofInt r)]
/-- what the interpreter's word means for the machine -/
def zSN (xs : Nat → Int) (L : Nat) : zE := fun d bc bs sc m il ls st H Q =>
  ∀ (l : Launch) (p : Program) (e : Env) (R : Room) (s : State) (M : MethodId) (args : Array Value) (below : List Frame) (meth : Method) (c : Code) (G : va_G) (cA : Nat → ClassId) (A : Nat → Prop) (b : Nat) (ρ : Nat → Nat) (Hm : Heap) (locs : List Loc) (cells slots pc : Nat) (lsm : Array Slot) (Z : State → Prop),
    zCx m sc xs L b p s M args meth c G cA A → zRm d R → zchk m pc il = true → zWd G cA ρ H A s Hm locs → (sc = true → ρ 0 = b) → (∀ v ∈ st, zvo (zS H) v) → zLo ρ (zS H) (zml m) ls lsm → cells + bc ≤ R.cells → slots + bs ≤ R.slots →
    (∀ (r : Int) (H' : zH) (ρ' : Nat → Nat) (Hm' : Heap) (locs' : List Loc) (cells' slots' pc' : Nat) (lsm' : Array Slot), Q r H' → zWd G cA ρ' H' A s Hm' locs' → (∀ a, a < zS H → ρ' a = ρ a) → zS H ≤ zS H' → cells' ≤ cells + bc → slots' ≤ slots + bs → zEn m r pc' → W p l e R s M args below meth c Hm' locs' cells' slots' Z (F0 M pc' lsm' (zRt m r))) →
    W p l e R s M args below meth c Hm locs cells slots Z (F0 M pc lsm (st.map (zv ρ)))
theorem zof_rem {x y : Int} (hx : z32 x) (hy : z32 y) : Int32.ofInt (x.tmod y) = Int32.ofInt x - Int32.ofInt x / Int32.ofInt y * Int32.ofInt y := by
  rw [← zof_div hx hy, ← zof_mul, ← zof_sub, Int.tmod_def, Int.mul_comm]
theorem zof_remL {x y : Int} (hx : z64 x) (hy : z64 y) : Int64.ofInt (x.tmod y) = Int64.ofInt x - Int64.ofInt x / Int64.ofInt y * Int64.ofInt y := by
  rw [← zof_divL hx hy, ← zof_mulL, ← Int64.ofInt_sub, Int.tmod_def, Int.mul_comm]
theorem zchk_cons {m pc : Nat} {i : Instr} {il : List Instr} (h : zchk m pc (i :: il) = true) (h1 : i ≠ .athrow) (h2 : ∀ t, i ≠ .goto_w t) : ∃ j len, decode (zcc m) pc = .ok (j, len) ∧ (j, len) ∈ zraw pc i ∧ zext m i = true ∧ (zte i = true ∨ zchk m (pc + len) il = true) := by
  unfold zchk at h
  split at h
  · exact absurd rfl h1
  · exact absurd rfl (h2 _)
  · split at h
    next j len hd =>
      simp only [Bool.and_eq_true, Bool.or_eq_true, List.any_eq_true, decide_eq_true_eq] at h
      obtain ⟨⟨⟨q, hq, rfl⟩, hx⟩, ht⟩ := h
      exact ⟨j, len, hd, hq, hx, ht⟩
    next => exact absurd h (by decide)
theorem zgt_spec {ls : zLs} {i : Nat} {v : zV} (h : zgt ls i = some v) : ls[i]? = some (some v) := by
  unfold zgt at h
  rw [List.getD_eq_getElem?_getD] at h
  cases hq : ls[i]? with
  | none => rw [hq] at h; cases h
  | some o => rw [hq] at h; exact congrArg some h
theorem zcat1 {ρ : Nat → Nat} {x : Int} : (zv ρ (zi x)).category = 1 := rfl
theorem zcat2 {ρ : Nat → Nat} {x : Int} : (zv ρ (zl x)).category = 2 := rfl
theorem zcat3 {ρ : Nat → Nat} {r : Option Nat} : (zv ρ (zr r)).category = 1 := by cases r <;> rfl
theorem zLo.get {ρ : Nat → Nat} {n nL : Nat} {ls : zLs} {lsm : Array Slot} (h : zLo ρ n nL ls lsm) {i : Nat} {v : zV} (hv : zgt ls i = some v) : lsm[i]? = some (.val (zv ρ v)) ∧ zvo n v := h.2.2.2 i v (zgt_spec hv)
/-- the known locals, as a list -/
def zlv (ρ : Nat → Nat) (ls : zLs) : List (Nat × Value) := (List.range ls.length).filterMap (fun i => (zgt ls i).map (fun v => (i, zv ρ v)))
theorem zLo.has {ρ : Nat → Nat} {n nL : Nat} {ls : zLs} {lsm : Array Slot} (h : zLo ρ n nL ls lsm) : lv_has lsm nL (zlv ρ ls) := by
  refine ⟨h.2.1, h.2.2.1, fun q hq => ?_⟩
  obtain ⟨i, -, hi⟩ := List.mem_filterMap.mp hq
  cases hg : zgt ls i with
  | none => rw [hg] at hi; cases hi
  | some v =>
    rw [hg] at hi
    cases hi
    exact (h.get hg).1
theorem zlv_mem {ρ : Nat → Nat} {ls : zLs} {i : Nat} {v : zV} (h : ls[i]? = some (some v)) : (i, zv ρ v) ∈ zlv ρ ls := by
  refine List.mem_filterMap.mpr ⟨i, List.mem_range.mpr (List.getElem?_eq_some_iff.mp h).1, ?_⟩
  unfold zgt
  rw [List.getD_eq_getElem?_getD, h]
  rfl
theorem zkl_len (ls : zLs) (i : Nat) : (zkl ls i).length = ls.length := by
  unfold zkl
  split
  · split <;> simp
  · rfl
theorem zkl_at {ls : zLs} {i j : Nat} {v : zV} (h : (zkl ls i)[j]? = some (some v)) : ls[j]? = some (some v) ∧ (j + 1 = i → ∀ x, v ≠ zl x) := by
  unfold zkl at h
  split at h
  next x hx =>
    by_cases hi : i = 0
    · rw [if_pos hi] at h
      exact ⟨h, fun q => by omega⟩
    · rw [if_neg hi, List.getElem?_set] at h
      by_cases hj : i - 1 = j
      · rw [if_pos hj] at h
        split at h
        · cases h
        · cases h
      · rw [if_neg hj] at h
        exact ⟨h, fun q => by omega⟩
  next hx =>
    refine ⟨h, fun q x hv => ?_⟩
    subst hv
    apply hx x
    unfold zgt
    rw [List.getD_eq_getElem?_getD, show i - 1 = j by omega, h]
    rfl
theorem zLo.store1 {ρ : Nat → Nat} {n nL : Nat} {ls : zLs} {lsm lsm' : Array Slot} (h : zLo ρ n nL ls lsm) {i : Nat} {v : zV} (hv : zvo n v) (h' : lv_has lsm' nL ((i, zv ρ v) :: (zlv ρ ls).filter (fun q => !(q.1 == i) && !(q.1 + 1 == i && q.2.category == 2)))) : zLo ρ n nL (zs1 ls i v) lsm' := by
  refine ⟨by simp only [zs1, List.length_set, zkl_len]; exact h.1, h'.1, h'.2.1, fun j w hj => ?_⟩
  unfold zs1 at hj
  rw [List.getElem?_set] at hj
  by_cases hji : i = j
  · subst hji
    rw [if_pos rfl] at hj
    split at hj
    · cases hj
      exact ⟨h'.2.2 _ List.mem_cons_self, hv⟩
    · cases hj
  · rw [if_neg hji] at hj
    obtain ⟨h1, h2⟩ := zkl_at hj
    refine ⟨h'.2.2 (j, zv ρ w) (List.mem_cons_of_mem _ (List.mem_filter.mpr ⟨zlv_mem h1, ?_⟩)), (h.2.2.2 j w h1).2⟩
    have e1 : (j == i) = false := by simp; omega
    simp only [e1, Bool.not_false, Bool.true_and]
    by_cases e2 : j + 1 = i
    · have := h2 e2
      match w, this with
      | .inl x, _ => simp [zv, Value.category]
      | .inr (.inl x), q => exact absurd rfl (q x)
      | .inr (.inr none), _ => simp [zv, va_rf, Value.category]
      | .inr (.inr (some a)), _ => simp [zv, va_rf, Value.category]
    · have e3 : (j + 1 == i) = false := by simp; omega
      simp [e3]
theorem zLo.store2 {ρ : Nat → Nat} {n nL : Nat} {ls : zLs} {lsm lsm' : Array Slot} (h : zLo ρ n nL ls lsm) {i : Nat} {v : zV} (hv : zvo n v) (h' : lv_has lsm' nL ((i, zv ρ v) :: (zlv ρ ls).filter (fun q => !(q.1 == i) && (!(q.1 == i + 1) && !(q.1 + 1 == i && q.2.category == 2))))) : zLo ρ n nL (zs2 ls i v) lsm' := by
  refine ⟨by simp only [zs2, List.length_set, zkl_len]; exact h.1, h'.1, h'.2.1, fun j w hj => ?_⟩
  unfold zs2 at hj
  rw [List.getElem?_set] at hj
  by_cases hj1 : i + 1 = j
  · rw [if_pos hj1] at hj
    split at hj <;> cases hj
  rw [if_neg hj1, List.getElem?_set] at hj
  by_cases hji : i = j
  · subst hji
    rw [if_pos rfl] at hj
    split at hj
    · cases hj
      exact ⟨h'.2.2 _ List.mem_cons_self, hv⟩
    · cases hj
  · rw [if_neg hji] at hj
    obtain ⟨h1, h2⟩ := zkl_at hj
    refine ⟨h'.2.2 (j, zv ρ w) (List.mem_cons_of_mem _ (List.mem_filter.mpr ⟨zlv_mem h1, ?_⟩)), (h.2.2.2 j w h1).2⟩
    have e1 : (j == i) = false := by simp; omega
    have e0 : (j == i + 1) = false := by simp; omega
    simp only [e1, e0, Bool.not_false, Bool.true_and]
    by_cases e2 : j + 1 = i
    · have := h2 e2
      match w, this with
      | .inl x, _ => simp [zv, Value.category]
      | .inr (.inl x), q => exact absurd rfl (q x)
      | .inr (.inr none), _ => simp [zv, va_rf, Value.category]
      | .inr (.inr (some a)), _ => simp [zv, va_rf, Value.category]
    · have e3 : (j + 1 == i) = false := by simp; omega
      simp [e3]
theorem zvo_mono {n n' : Nat} (h : n ≤ n') {v : zV} (hv : zvo n v) : zvo n' v := by
  match v, hv with
  | .inl x, hv => exact hv
  | .inr (.inl x), hv => exact hv
  | .inr (.inr r), hv => exact fun a ha => Nat.lt_of_lt_of_le (hv a ha) h
theorem zv_ext {ρ ρ' : Nat → Nat} {n : Nat} (h : ∀ a, a < n → ρ' a = ρ a) {v : zV} (hv : zvo n v) : zv ρ' v = zv ρ v := by
  match v, hv with
  | .inl x, hv => rfl
  | .inr (.inl x), hv => rfl
  | .inr (.inr none), hv => rfl
  | .inr (.inr (some a)), hv => show Value.ref (ρ' a) = Value.ref (ρ a); rw [h a (hv a rfl)]
theorem zvs_ext {ρ ρ' : Nat → Nat} {n : Nat} (h : ∀ a, a < n → ρ' a = ρ a) {st : List zV} (hs : ∀ v ∈ st, zvo n v) : st.map (zv ρ') = st.map (zv ρ) := List.map_congr_left fun v hv => zv_ext h (hs v hv)
theorem zLo.ext {ρ ρ' : Nat → Nat} {n n' nL : Nat} {ls : zLs} {lsm : Array Slot} (h : zLo ρ n nL ls lsm) (hr : ∀ a, a < n → ρ' a = ρ a) (hn : n ≤ n') : zLo ρ' n' nL ls lsm :=
  ⟨h.1, h.2.1, h.2.2.1, fun i v hv => ⟨by rw [zv_ext hr (h.2.2.2 i v hv).2]; exact (h.2.2.2 i v hv).1, zvo_mono hn (h.2.2.2 i v hv).2⟩⟩
def zIH (xs : Nat → Int) (L d : Nat) (sc : Bool) (m : Nat) (Q : zQ) (k : zKo) (il : List Instr) : Prop := ∀ bc bs ls st H, k bc bs ls st H → zSN xs L d bc bs sc m il ls st H Q
theorem zq_iadd {xs : Nat → Int} {L d : Nat} {sc : Bool} {m : Nat} {Q : zQ} {J : zJt} {C : zCt} {k : zKo} {il : List Instr} {bc bs : Nat} {ls : zLs} {st : List zV} {H : zH} (ih : zIH xs L d sc m Q k il) (h : zins J C sc xs L Q (.iadd) k bc bs ls st H) : zSN xs L d bc bs sc m (.iadd :: il) ls st H Q := by
  intro l p e R s M args below meth c G cA A b ρ Hm locs cells slots pc lsm Z hC hR hk hW h0 hst hls hc1 hc2 hZ
  obtain ⟨j, len, hd, hj, hx, ht⟩ := zchk_cons hk (by intro q; cases q) (by intro t q; cases q)
  obtain ⟨hX, hB, hL2, hret, hlk, hown, hts, hnk, hini, hK, hA, hsc⟩ := id hC
  simp only [zraw, List.mem_singleton, Prod.mk.injEq] at hj
  obtain ⟨rfl, rfl⟩ := hj
  have ht := ht.resolve_left (by simp [zte])
  simp only [zins] at h
  split at h
  next y x st =>
    obtain ⟨hy, hst⟩ := List.forall_mem_cons.mp hst
    obtain ⟨hx2, hst⟩ := List.forall_mem_cons.mp hst
    obtain ⟨hg, h⟩ := h
    refine lv_iadd hX hB hd ?_
    rw [← zof_add]
    exact ih bc bs ls _ H h l p e R s M args below meth c G cA A b ρ Hm locs cells slots (pc + 1) lsm Z hC hR ht hW h0 (List.forall_mem_cons.mpr ⟨hg, hst⟩) hls hc1 hc2 hZ
  next => exact h.elim
theorem zq_isub {xs : Nat → Int} {L d : Nat} {sc : Bool} {m : Nat} {Q : zQ} {J : zJt} {C : zCt} {k : zKo} {il : List Instr} {bc bs : Nat} {ls : zLs} {st : List zV} {H : zH} (ih : zIH xs L d sc m Q k il) (h : zins J C sc xs L Q (.isub) k bc bs ls st H) : zSN xs L d bc bs sc m (.isub :: il) ls st H Q := by
  intro l p e R s M args below meth c G cA A b ρ Hm locs cells slots pc lsm Z hC hR hk hW h0 hst hls hc1 hc2 hZ
  obtain ⟨j, len, hd, hj, hx, ht⟩ := zchk_cons hk (by intro q; cases q) (by intro t q; cases q)
  obtain ⟨hX, hB, hL2, hret, hlk, hown, hts, hnk, hini, hK, hA, hsc⟩ := id hC
  simp only [zraw, List.mem_singleton, Prod.mk.injEq] at hj
  obtain ⟨rfl, rfl⟩ := hj
  have ht := ht.resolve_left (by simp [zte])
  simp only [zins] at h
  split at h
  next y x st =>
    obtain ⟨hy, hst⟩ := List.forall_mem_cons.mp hst
    obtain ⟨hx2, hst⟩ := List.forall_mem_cons.mp hst
    obtain ⟨hg, h⟩ := h
    refine lv_isub hX hB hd ?_
    rw [← zof_sub]
    exact ih bc bs ls _ H h l p e R s M args below meth c G cA A b ρ Hm locs cells slots (pc + 1) lsm Z hC hR ht hW h0 (List.forall_mem_cons.mpr ⟨hg, hst⟩) hls hc1 hc2 hZ
  next => exact h.elim
theorem zq_imul {xs : Nat → Int} {L d : Nat} {sc : Bool} {m : Nat} {Q : zQ} {J : zJt} {C : zCt} {k : zKo} {il : List Instr} {bc bs : Nat} {ls : zLs} {st : List zV} {H : zH} (ih : zIH xs L d sc m Q k il) (h : zins J C sc xs L Q (.imul) k bc bs ls st H) : zSN xs L d bc bs sc m (.imul :: il) ls st H Q := by
  intro l p e R s M args below meth c G cA A b ρ Hm locs cells slots pc lsm Z hC hR hk hW h0 hst hls hc1 hc2 hZ
  obtain ⟨j, len, hd, hj, hx, ht⟩ := zchk_cons hk (by intro q; cases q) (by intro t q; cases q)
  obtain ⟨hX, hB, hL2, hret, hlk, hown, hts, hnk, hini, hK, hA, hsc⟩ := id hC
  simp only [zraw, List.mem_singleton, Prod.mk.injEq] at hj
  obtain ⟨rfl, rfl⟩ := hj
  have ht := ht.resolve_left (by simp [zte])
  simp only [zins] at h
  split at h
  next y x st =>
    obtain ⟨hy, hst⟩ := List.forall_mem_cons.mp hst
    obtain ⟨hx2, hst⟩ := List.forall_mem_cons.mp hst
    obtain ⟨hg, h⟩ := h
    refine lv_imul hX hB hd ?_
    rw [← zof_mul]
    exact ih bc bs ls _ H h l p e R s M args below meth c G cA A b ρ Hm locs cells slots (pc + 1) lsm Z hC hR ht hW h0 (List.forall_mem_cons.mpr ⟨hg, hst⟩) hls hc1 hc2 hZ
  next => exact h.elim
theorem zq_idiv {xs : Nat → Int} {L d : Nat} {sc : Bool} {m : Nat} {Q : zQ} {J : zJt} {C : zCt} {k : zKo} {il : List Instr} {bc bs : Nat} {ls : zLs} {st : List zV} {H : zH} (ih : zIH xs L d sc m Q k il) (h : zins J C sc xs L Q (.idiv) k bc bs ls st H) : zSN xs L d bc bs sc m (.idiv :: il) ls st H Q := by
  intro l p e R s M args below meth c G cA A b ρ Hm locs cells slots pc lsm Z hC hR hk hW h0 hst hls hc1 hc2 hZ
  obtain ⟨j, len, hd, hj, hx, ht⟩ := zchk_cons hk (by intro q; cases q) (by intro t q; cases q)
  obtain ⟨hX, hB, hL2, hret, hlk, hown, hts, hnk, hini, hK, hA, hsc⟩ := id hC
  simp only [zraw, List.mem_singleton, Prod.mk.injEq] at hj
  obtain ⟨rfl, rfl⟩ := hj
  have ht := ht.resolve_left (by simp [zte])
  simp only [zins] at h
  split at h
  next y x st =>
    obtain ⟨hy, hst⟩ := List.forall_mem_cons.mp hst
    obtain ⟨hx2, hst⟩ := List.forall_mem_cons.mp hst
    obtain ⟨hn, hg, h⟩ := h
    refine lv_idiv hX hB hd (zne0 hy hn) ?_
    rw [← zof_div hx2 hy]
    exact ih bc bs ls _ H h l p e R s M args below meth c G cA A b ρ Hm locs cells slots (pc + 1) lsm Z hC hR ht hW h0 (List.forall_mem_cons.mpr ⟨hg, hst⟩) hls hc1 hc2 hZ
  next => exact h.elim
theorem zq_irem {xs : Nat → Int} {L d : Nat} {sc : Bool} {m : Nat} {Q : zQ} {J : zJt} {C : zCt} {k : zKo} {il : List Instr} {bc bs : Nat} {ls : zLs} {st : List zV} {H : zH} (ih : zIH xs L d sc m Q k il) (h : zins J C sc xs L Q (.irem) k bc bs ls st H) : zSN xs L d bc bs sc m (.irem :: il) ls st H Q := by
  intro l p e R s M args below meth c G cA A b ρ Hm locs cells slots pc lsm Z hC hR hk hW h0 hst hls hc1 hc2 hZ
  obtain ⟨j, len, hd, hj, hx, ht⟩ := zchk_cons hk (by intro q; cases q) (by intro t q; cases q)
  obtain ⟨hX, hB, hL2, hret, hlk, hown, hts, hnk, hini, hK, hA, hsc⟩ := id hC
  simp only [zraw, List.mem_singleton, Prod.mk.injEq] at hj
  obtain ⟨rfl, rfl⟩ := hj
  have ht := ht.resolve_left (by simp [zte])
  simp only [zins] at h
  split at h
  next y x st =>
    obtain ⟨hy, hst⟩ := List.forall_mem_cons.mp hst
    obtain ⟨hx2, hst⟩ := List.forall_mem_cons.mp hst
    obtain ⟨hn, h⟩ := h
    refine lv_irem hX hB hd (zne0 hy hn) ?_
    rw [← zof_rem hx2 hy]
    exact ih bc bs ls _ H h l p e R s M args below meth c G cA A b ρ Hm locs cells slots (pc + 1) lsm Z hC hR ht hW h0 (List.forall_mem_cons.mpr ⟨(z32_mod hx2 hy), hst⟩) hls hc1 hc2 hZ
  next => exact h.elim
theorem zq_iand {xs : Nat → Int} {L d : Nat} {sc : Bool} {m : Nat} {Q : zQ} {J : zJt} {C : zCt} {k : zKo} {il : List Instr} {bc bs : Nat} {ls : zLs} {st : List zV} {H : zH} (ih : zIH xs L d sc m Q k il) (h : zins J C sc xs L Q (.iand) k bc bs ls st H) : zSN xs L d bc bs sc m (.iand :: il) ls st H Q := by
  intro l p e R s M args below meth c G cA A b ρ Hm locs cells slots pc lsm Z hC hR hk hW h0 hst hls hc1 hc2 hZ
  obtain ⟨j, len, hd, hj, hx, ht⟩ := zchk_cons hk (by intro q; cases q) (by intro t q; cases q)
  obtain ⟨hX, hB, hL2, hret, hlk, hown, hts, hnk, hini, hK, hA, hsc⟩ := id hC
  simp only [zraw, List.mem_singleton, Prod.mk.injEq] at hj
  obtain ⟨rfl, rfl⟩ := hj
  have ht := ht.resolve_left (by simp [zte])
  simp only [zins] at h
  split at h
  next y x st =>
    obtain ⟨hy, hst⟩ := List.forall_mem_cons.mp hst
    obtain ⟨hx2, hst⟩ := List.forall_mem_cons.mp hst
    refine lv_iand hX hB hd ?_
    rw [← zoi (Int32.ofInt x &&& Int32.ofInt y)]
    exact ih bc bs ls _ H h l p e R s M args below meth c G cA A b ρ Hm locs cells slots (pc + 1) lsm Z hC hR ht hW h0 (List.forall_mem_cons.mpr ⟨(z32_o _), hst⟩) hls hc1 hc2 hZ
  next => exact h.elim
theorem zq_ior {xs : Nat → Int} {L d : Nat} {sc : Bool} {m : Nat} {Q : zQ} {J : zJt} {C : zCt} {k : zKo} {il : List Instr} {bc bs : Nat} {ls : zLs} {st : List zV} {H : zH} (ih : zIH xs L d sc m Q k il) (h : zins J C sc xs L Q (.ior) k bc bs ls st H) : zSN xs L d bc bs sc m (.ior :: il) ls st H Q := by
  intro l p e R s M args below meth c G cA A b ρ Hm locs cells slots pc lsm Z hC hR hk hW h0 hst hls hc1 hc2 hZ
  obtain ⟨j, len, hd, hj, hx, ht⟩ := zchk_cons hk (by intro q; cases q) (by intro t q; cases q)
  obtain ⟨hX, hB, hL2, hret, hlk, hown, hts, hnk, hini, hK, hA, hsc⟩ := id hC
  simp only [zraw, List.mem_singleton, Prod.mk.injEq] at hj
  obtain ⟨rfl, rfl⟩ := hj
  have ht := ht.resolve_left (by simp [zte])
  simp only [zins] at h
  split at h
  next y x st =>
    obtain ⟨hy, hst⟩ := List.forall_mem_cons.mp hst
    obtain ⟨hx2, hst⟩ := List.forall_mem_cons.mp hst
    refine lv_ior hX hB hd ?_
    rw [← zoi (Int32.ofInt x ||| Int32.ofInt y)]
    exact ih bc bs ls _ H h l p e R s M args below meth c G cA A b ρ Hm locs cells slots (pc + 1) lsm Z hC hR ht hW h0 (List.forall_mem_cons.mpr ⟨(z32_o _), hst⟩) hls hc1 hc2 hZ
  next => exact h.elim
theorem zq_ixor {xs : Nat → Int} {L d : Nat} {sc : Bool} {m : Nat} {Q : zQ} {J : zJt} {C : zCt} {k : zKo} {il : List Instr} {bc bs : Nat} {ls : zLs} {st : List zV} {H : zH} (ih : zIH xs L d sc m Q k il) (h : zins J C sc xs L Q (.ixor) k bc bs ls st H) : zSN xs L d bc bs sc m (.ixor :: il) ls st H Q := by
  intro l p e R s M args below meth c G cA A b ρ Hm locs cells slots pc lsm Z hC hR hk hW h0 hst hls hc1 hc2 hZ
  obtain ⟨j, len, hd, hj, hx, ht⟩ := zchk_cons hk (by intro q; cases q) (by intro t q; cases q)
  obtain ⟨hX, hB, hL2, hret, hlk, hown, hts, hnk, hini, hK, hA, hsc⟩ := id hC
  simp only [zraw, List.mem_singleton, Prod.mk.injEq] at hj
  obtain ⟨rfl, rfl⟩ := hj
  have ht := ht.resolve_left (by simp [zte])
  simp only [zins] at h
  split at h
  next y x st =>
    obtain ⟨hy, hst⟩ := List.forall_mem_cons.mp hst
    obtain ⟨hx2, hst⟩ := List.forall_mem_cons.mp hst
    refine lv_ixor hX hB hd ?_
    rw [← zoi (Int32.ofInt x ^^^ Int32.ofInt y)]
    exact ih bc bs ls _ H h l p e R s M args below meth c G cA A b ρ Hm locs cells slots (pc + 1) lsm Z hC hR ht hW h0 (List.forall_mem_cons.mpr ⟨(z32_o _), hst⟩) hls hc1 hc2 hZ
  next => exact h.elim
theorem zq_ishl {xs : Nat → Int} {L d : Nat} {sc : Bool} {m : Nat} {Q : zQ} {J : zJt} {C : zCt} {k : zKo} {il : List Instr} {bc bs : Nat} {ls : zLs} {st : List zV} {H : zH} (ih : zIH xs L d sc m Q k il) (h : zins J C sc xs L Q (.ishl) k bc bs ls st H) : zSN xs L d bc bs sc m (.ishl :: il) ls st H Q := by
  intro l p e R s M args below meth c G cA A b ρ Hm locs cells slots pc lsm Z hC hR hk hW h0 hst hls hc1 hc2 hZ
  obtain ⟨j, len, hd, hj, hx, ht⟩ := zchk_cons hk (by intro q; cases q) (by intro t q; cases q)
  obtain ⟨hX, hB, hL2, hret, hlk, hown, hts, hnk, hini, hK, hA, hsc⟩ := id hC
  simp only [zraw, List.mem_singleton, Prod.mk.injEq] at hj
  obtain ⟨rfl, rfl⟩ := hj
  have ht := ht.resolve_left (by simp [zte])
  simp only [zins] at h
  split at h
  next y x st =>
    obtain ⟨hy, hst⟩ := List.forall_mem_cons.mp hst
    obtain ⟨hx2, hst⟩ := List.forall_mem_cons.mp hst
    refine lv_ishl hX hB hd ?_
    rw [← zoi (Int32.ofInt x <<< (Int32.ofInt y &&& 31))]
    exact ih bc bs ls _ H h l p e R s M args below meth c G cA A b ρ Hm locs cells slots (pc + 1) lsm Z hC hR ht hW h0 (List.forall_mem_cons.mpr ⟨(z32_o _), hst⟩) hls hc1 hc2 hZ
  next => exact h.elim
theorem zq_ishr {xs : Nat → Int} {L d : Nat} {sc : Bool} {m : Nat} {Q : zQ} {J : zJt} {C : zCt} {k : zKo} {il : List Instr} {bc bs : Nat} {ls : zLs} {st : List zV} {H : zH} (ih : zIH xs L d sc m Q k il) (h : zins J C sc xs L Q (.ishr) k bc bs ls st H) : zSN xs L d bc bs sc m (.ishr :: il) ls st H Q := by
  intro l p e R s M args below meth c G cA A b ρ Hm locs cells slots pc lsm Z hC hR hk hW h0 hst hls hc1 hc2 hZ
  obtain ⟨j, len, hd, hj, hx, ht⟩ := zchk_cons hk (by intro q; cases q) (by intro t q; cases q)
  obtain ⟨hX, hB, hL2, hret, hlk, hown, hts, hnk, hini, hK, hA, hsc⟩ := id hC
  simp only [zraw, List.mem_singleton, Prod.mk.injEq] at hj
  obtain ⟨rfl, rfl⟩ := hj
  have ht := ht.resolve_left (by simp [zte])
  simp only [zins] at h
  split at h
  next y x st =>
    obtain ⟨hy, hst⟩ := List.forall_mem_cons.mp hst
    obtain ⟨hx2, hst⟩ := List.forall_mem_cons.mp hst
    refine lv_ishr hX hB hd ?_
    rw [← zoi (Int32.ofInt x >>> (Int32.ofInt y &&& 31))]
    exact ih bc bs ls _ H h l p e R s M args below meth c G cA A b ρ Hm locs cells slots (pc + 1) lsm Z hC hR ht hW h0 (List.forall_mem_cons.mpr ⟨(z32_o _), hst⟩) hls hc1 hc2 hZ
  next => exact h.elim
theorem zq_iushr {xs : Nat → Int} {L d : Nat} {sc : Bool} {m : Nat} {Q : zQ} {J : zJt} {C : zCt} {k : zKo} {il : List Instr} {bc bs : Nat} {ls : zLs} {st : List zV} {H : zH} (ih : zIH xs L d sc m Q k il) (h : zins J C sc xs L Q (.iushr) k bc bs ls st H) : zSN xs L d bc bs sc m (.iushr :: il) ls st H Q := by
  intro l p e R s M args below meth c G cA A b ρ Hm locs cells slots pc lsm Z hC hR hk hW h0 hst hls hc1 hc2 hZ
  obtain ⟨j, len, hd, hj, hx, ht⟩ := zchk_cons hk (by intro q; cases q) (by intro t q; cases q)
  obtain ⟨hX, hB, hL2, hret, hlk, hown, hts, hnk, hini, hK, hA, hsc⟩ := id hC
  simp only [zraw, List.mem_singleton, Prod.mk.injEq] at hj
  obtain ⟨rfl, rfl⟩ := hj
  have ht := ht.resolve_left (by simp [zte])
  simp only [zins] at h
  split at h
  next y x st =>
    obtain ⟨hy, hst⟩ := List.forall_mem_cons.mp hst
    obtain ⟨hx2, hst⟩ := List.forall_mem_cons.mp hst
    refine lv_iushr (v := Int32.ofInt (zushr x y)) hX hB hd (zoi _).symm ?_
    exact ih bc bs ls _ H h l p e R s M args below meth c G cA A b ρ Hm locs cells slots (pc + 1) lsm Z hC hR ht hW h0 (List.forall_mem_cons.mpr ⟨(z32_o _), hst⟩) hls hc1 hc2 hZ
  next => exact h.elim
theorem zq_ladd {xs : Nat → Int} {L d : Nat} {sc : Bool} {m : Nat} {Q : zQ} {J : zJt} {C : zCt} {k : zKo} {il : List Instr} {bc bs : Nat} {ls : zLs} {st : List zV} {H : zH} (ih : zIH xs L d sc m Q k il) (h : zins J C sc xs L Q (.ladd) k bc bs ls st H) : zSN xs L d bc bs sc m (.ladd :: il) ls st H Q := by
  intro l p e R s M args below meth c G cA A b ρ Hm locs cells slots pc lsm Z hC hR hk hW h0 hst hls hc1 hc2 hZ
  obtain ⟨j, len, hd, hj, hx, ht⟩ := zchk_cons hk (by intro q; cases q) (by intro t q; cases q)
  obtain ⟨hX, hB, hL2, hret, hlk, hown, hts, hnk, hini, hK, hA, hsc⟩ := id hC
  simp only [zraw, List.mem_singleton, Prod.mk.injEq] at hj
  obtain ⟨rfl, rfl⟩ := hj
  have ht := ht.resolve_left (by simp [zte])
  simp only [zins] at h
  split at h
  next y x st =>
    obtain ⟨hy, hst⟩ := List.forall_mem_cons.mp hst
    obtain ⟨hx2, hst⟩ := List.forall_mem_cons.mp hst
    obtain ⟨hg, h⟩ := h
    refine lv_ladd hX hB hd ?_
    rw [← zof_addL]
    exact ih bc bs ls _ H h l p e R s M args below meth c G cA A b ρ Hm locs cells slots (pc + 1) lsm Z hC hR ht hW h0 (List.forall_mem_cons.mpr ⟨hg, hst⟩) hls hc1 hc2 hZ
  next => exact h.elim
theorem zq_lmul {xs : Nat → Int} {L d : Nat} {sc : Bool} {m : Nat} {Q : zQ} {J : zJt} {C : zCt} {k : zKo} {il : List Instr} {bc bs : Nat} {ls : zLs} {st : List zV} {H : zH} (ih : zIH xs L d sc m Q k il) (h : zins J C sc xs L Q (.lmul) k bc bs ls st H) : zSN xs L d bc bs sc m (.lmul :: il) ls st H Q := by
  intro l p e R s M args below meth c G cA A b ρ Hm locs cells slots pc lsm Z hC hR hk hW h0 hst hls hc1 hc2 hZ
  obtain ⟨j, len, hd, hj, hx, ht⟩ := zchk_cons hk (by intro q; cases q) (by intro t q; cases q)
  obtain ⟨hX, hB, hL2, hret, hlk, hown, hts, hnk, hini, hK, hA, hsc⟩ := id hC
  simp only [zraw, List.mem_singleton, Prod.mk.injEq] at hj
  obtain ⟨rfl, rfl⟩ := hj
  have ht := ht.resolve_left (by simp [zte])
  simp only [zins] at h
  split at h
  next y x st =>
    obtain ⟨hy, hst⟩ := List.forall_mem_cons.mp hst
    obtain ⟨hx2, hst⟩ := List.forall_mem_cons.mp hst
    obtain ⟨hg, h⟩ := h
    refine lv_lmul hX hB hd ?_
    rw [← zof_mulL]
    exact ih bc bs ls _ H h l p e R s M args below meth c G cA A b ρ Hm locs cells slots (pc + 1) lsm Z hC hR ht hW h0 (List.forall_mem_cons.mpr ⟨hg, hst⟩) hls hc1 hc2 hZ
  next => exact h.elim
theorem zq_ldiv {xs : Nat → Int} {L d : Nat} {sc : Bool} {m : Nat} {Q : zQ} {J : zJt} {C : zCt} {k : zKo} {il : List Instr} {bc bs : Nat} {ls : zLs} {st : List zV} {H : zH} (ih : zIH xs L d sc m Q k il) (h : zins J C sc xs L Q (.ldiv) k bc bs ls st H) : zSN xs L d bc bs sc m (.ldiv :: il) ls st H Q := by
  intro l p e R s M args below meth c G cA A b ρ Hm locs cells slots pc lsm Z hC hR hk hW h0 hst hls hc1 hc2 hZ
  obtain ⟨j, len, hd, hj, hx, ht⟩ := zchk_cons hk (by intro q; cases q) (by intro t q; cases q)
  obtain ⟨hX, hB, hL2, hret, hlk, hown, hts, hnk, hini, hK, hA, hsc⟩ := id hC
  simp only [zraw, List.mem_singleton, Prod.mk.injEq] at hj
  obtain ⟨rfl, rfl⟩ := hj
  have ht := ht.resolve_left (by simp [zte])
  simp only [zins] at h
  split at h
  next y x st =>
    obtain ⟨hy, hst⟩ := List.forall_mem_cons.mp hst
    obtain ⟨hx2, hst⟩ := List.forall_mem_cons.mp hst
    obtain ⟨hn, hg, h⟩ := h
    refine lv_ldiv hX hB hd (zne0L hy hn) ?_
    rw [← zof_divL hx2 hy]
    exact ih bc bs ls _ H h l p e R s M args below meth c G cA A b ρ Hm locs cells slots (pc + 1) lsm Z hC hR ht hW h0 (List.forall_mem_cons.mpr ⟨hg, hst⟩) hls hc1 hc2 hZ
  next => exact h.elim
theorem zq_lrem {xs : Nat → Int} {L d : Nat} {sc : Bool} {m : Nat} {Q : zQ} {J : zJt} {C : zCt} {k : zKo} {il : List Instr} {bc bs : Nat} {ls : zLs} {st : List zV} {H : zH} (ih : zIH xs L d sc m Q k il) (h : zins J C sc xs L Q (.lrem) k bc bs ls st H) : zSN xs L d bc bs sc m (.lrem :: il) ls st H Q := by
  intro l p e R s M args below meth c G cA A b ρ Hm locs cells slots pc lsm Z hC hR hk hW h0 hst hls hc1 hc2 hZ
  obtain ⟨j, len, hd, hj, hx, ht⟩ := zchk_cons hk (by intro q; cases q) (by intro t q; cases q)
  obtain ⟨hX, hB, hL2, hret, hlk, hown, hts, hnk, hini, hK, hA, hsc⟩ := id hC
  simp only [zraw, List.mem_singleton, Prod.mk.injEq] at hj
  obtain ⟨rfl, rfl⟩ := hj
  have ht := ht.resolve_left (by simp [zte])
  simp only [zins] at h
  split at h
  next y x st =>
    obtain ⟨hy, hst⟩ := List.forall_mem_cons.mp hst
    obtain ⟨hx2, hst⟩ := List.forall_mem_cons.mp hst
    obtain ⟨hn, h⟩ := h
    refine lv_lrem hX hB hd (zne0L hy hn) ?_
    rw [← zof_remL hx2 hy]
    exact ih bc bs ls _ H h l p e R s M args below meth c G cA A b ρ Hm locs cells slots (pc + 1) lsm Z hC hR ht hW h0 (List.forall_mem_cons.mpr ⟨(z64_mod hx2 hy), hst⟩) hls hc1 hc2 hZ
  next => exact h.elim
theorem zq_land {xs : Nat → Int} {L d : Nat} {sc : Bool} {m : Nat} {Q : zQ} {J : zJt} {C : zCt} {k : zKo} {il : List Instr} {bc bs : Nat} {ls : zLs} {st : List zV} {H : zH} (ih : zIH xs L d sc m Q k il) (h : zins J C sc xs L Q (.land) k bc bs ls st H) : zSN xs L d bc bs sc m (.land :: il) ls st H Q := by
  intro l p e R s M args below meth c G cA A b ρ Hm locs cells slots pc lsm Z hC hR hk hW h0 hst hls hc1 hc2 hZ
  obtain ⟨j, len, hd, hj, hx, ht⟩ := zchk_cons hk (by intro q; cases q) (by intro t q; cases q)
  obtain ⟨hX, hB, hL2, hret, hlk, hown, hts, hnk, hini, hK, hA, hsc⟩ := id hC
  simp only [zraw, List.mem_singleton, Prod.mk.injEq] at hj
  obtain ⟨rfl, rfl⟩ := hj
  have ht := ht.resolve_left (by simp [zte])
  simp only [zins] at h
  split at h
  next y x st =>
    obtain ⟨hy, hst⟩ := List.forall_mem_cons.mp hst
    obtain ⟨hx2, hst⟩ := List.forall_mem_cons.mp hst
    refine lv_land hX hB hd ?_
    rw [← zoj (Int64.ofInt x &&& Int64.ofInt y)]
    exact ih bc bs ls _ H h l p e R s M args below meth c G cA A b ρ Hm locs cells slots (pc + 1) lsm Z hC hR ht hW h0 (List.forall_mem_cons.mpr ⟨(z64_o _), hst⟩) hls hc1 hc2 hZ
  next => exact h.elim
theorem zq_lor {xs : Nat → Int} {L d : Nat} {sc : Bool} {m : Nat} {Q : zQ} {J : zJt} {C : zCt} {k : zKo} {il : List Instr} {bc bs : Nat} {ls : zLs} {st : List zV} {H : zH} (ih : zIH xs L d sc m Q k il) (h : zins J C sc xs L Q (.lor) k bc bs ls st H) : zSN xs L d bc bs sc m (.lor :: il) ls st H Q := by
  intro l p e R s M args below meth c G cA A b ρ Hm locs cells slots pc lsm Z hC hR hk hW h0 hst hls hc1 hc2 hZ
  obtain ⟨j, len, hd, hj, hx, ht⟩ := zchk_cons hk (by intro q; cases q) (by intro t q; cases q)
  obtain ⟨hX, hB, hL2, hret, hlk, hown, hts, hnk, hini, hK, hA, hsc⟩ := id hC
  simp only [zraw, List.mem_singleton, Prod.mk.injEq] at hj
  obtain ⟨rfl, rfl⟩ := hj
  have ht := ht.resolve_left (by simp [zte])
  simp only [zins] at h
  split at h
  next y x st =>
    obtain ⟨hy, hst⟩ := List.forall_mem_cons.mp hst
    obtain ⟨hx2, hst⟩ := List.forall_mem_cons.mp hst
    refine lv_lor hX hB hd ?_
    rw [← zoj (Int64.ofInt x ||| Int64.ofInt y)]
    exact ih bc bs ls _ H h l p e R s M args below meth c G cA A b ρ Hm locs cells slots (pc + 1) lsm Z hC hR ht hW h0 (List.forall_mem_cons.mpr ⟨(z64_o _), hst⟩) hls hc1 hc2 hZ
  next => exact h.elim
theorem zq_lshl {xs : Nat → Int} {L d : Nat} {sc : Bool} {m : Nat} {Q : zQ} {J : zJt} {C : zCt} {k : zKo} {il : List Instr} {bc bs : Nat} {ls : zLs} {st : List zV} {H : zH} (ih : zIH xs L d sc m Q k il) (h : zins J C sc xs L Q (.lshl) k bc bs ls st H) : zSN xs L d bc bs sc m (.lshl :: il) ls st H Q := by
  intro l p e R s M args below meth c G cA A b ρ Hm locs cells slots pc lsm Z hC hR hk hW h0 hst hls hc1 hc2 hZ
  obtain ⟨j, len, hd, hj, hx, ht⟩ := zchk_cons hk (by intro q; cases q) (by intro t q; cases q)
  obtain ⟨hX, hB, hL2, hret, hlk, hown, hts, hnk, hini, hK, hA, hsc⟩ := id hC
  simp only [zraw, List.mem_singleton, Prod.mk.injEq] at hj
  obtain ⟨rfl, rfl⟩ := hj
  have ht := ht.resolve_left (by simp [zte])
  simp only [zins] at h
  split at h
  next y x st =>
    obtain ⟨hy, hst⟩ := List.forall_mem_cons.mp hst
    obtain ⟨hx2, hst⟩ := List.forall_mem_cons.mp hst
    refine lv_lshl (v := Int64.ofInt (zlshl x y)) hX hB hd (zoj _).symm ?_
    exact ih bc bs ls _ H h l p e R s M args below meth c G cA A b ρ Hm locs cells slots (pc + 1) lsm Z hC hR ht hW h0 (List.forall_mem_cons.mpr ⟨(z64_o _), hst⟩) hls hc1 hc2 hZ
  next => exact h.elim
theorem zq_lshr {xs : Nat → Int} {L d : Nat} {sc : Bool} {m : Nat} {Q : zQ} {J : zJt} {C : zCt} {k : zKo} {il : List Instr} {bc bs : Nat} {ls : zLs} {st : List zV} {H : zH} (ih : zIH xs L d sc m Q k il) (h : zins J C sc xs L Q (.lshr) k bc bs ls st H) : zSN xs L d bc bs sc m (.lshr :: il) ls st H Q := by
  intro l p e R s M args below meth c G cA A b ρ Hm locs cells slots pc lsm Z hC hR hk hW h0 hst hls hc1 hc2 hZ
  obtain ⟨j, len, hd, hj, hx, ht⟩ := zchk_cons hk (by intro q; cases q) (by intro t q; cases q)
  obtain ⟨hX, hB, hL2, hret, hlk, hown, hts, hnk, hini, hK, hA, hsc⟩ := id hC
  simp only [zraw, List.mem_singleton, Prod.mk.injEq] at hj
  obtain ⟨rfl, rfl⟩ := hj
  have ht := ht.resolve_left (by simp [zte])
  simp only [zins] at h
  split at h
  next y x st =>
    obtain ⟨hy, hst⟩ := List.forall_mem_cons.mp hst
    obtain ⟨hx2, hst⟩ := List.forall_mem_cons.mp hst
    refine lv_lshr (v := Int64.ofInt (zlshr x y)) hX hB hd (zoj _).symm ?_
    exact ih bc bs ls _ H h l p e R s M args below meth c G cA A b ρ Hm locs cells slots (pc + 1) lsm Z hC hR ht hW h0 (List.forall_mem_cons.mpr ⟨(z64_o _), hst⟩) hls hc1 hc2 hZ
  next => exact h.elim
theorem zq_i2b {xs : Nat → Int} {L d : Nat} {sc : Bool} {m : Nat} {Q : zQ} {J : zJt} {C : zCt} {k : zKo} {il : List Instr} {bc bs : Nat} {ls : zLs} {st : List zV} {H : zH} (ih : zIH xs L d sc m Q k il) (h : zins J C sc xs L Q (.i2b) k bc bs ls st H) : zSN xs L d bc bs sc m (.i2b :: il) ls st H Q := by
  intro l p e R s M args below meth c G cA A b ρ Hm locs cells slots pc lsm Z hC hR hk hW h0 hst hls hc1 hc2 hZ
  obtain ⟨j, len, hd, hj, hx, ht⟩ := zchk_cons hk (by intro q; cases q) (by intro t q; cases q)
  obtain ⟨hX, hB, hL2, hret, hlk, hown, hts, hnk, hini, hK, hA, hsc⟩ := id hC
  simp only [zraw, List.mem_singleton, Prod.mk.injEq] at hj
  obtain ⟨rfl, rfl⟩ := hj
  have ht := ht.resolve_left (by simp [zte])
  simp only [zins] at h
  split at h
  next x st =>
    obtain ⟨hx2, hst⟩ := List.forall_mem_cons.mp hst
    refine lv_i2b (v := Int32.ofInt (zi2b x)) hX hB hd (zoi _).symm ?_
    exact ih bc bs ls _ H h l p e R s M args below meth c G cA A b ρ Hm locs cells slots (pc + 1) lsm Z hC hR ht hW h0 (List.forall_mem_cons.mpr ⟨(z32_o _), hst⟩) hls hc1 hc2 hZ
  next => exact h.elim
theorem zq_i2l {xs : Nat → Int} {L d : Nat} {sc : Bool} {m : Nat} {Q : zQ} {J : zJt} {C : zCt} {k : zKo} {il : List Instr} {bc bs : Nat} {ls : zLs} {st : List zV} {H : zH} (ih : zIH xs L d sc m Q k il) (h : zins J C sc xs L Q (.i2l) k bc bs ls st H) : zSN xs L d bc bs sc m (.i2l :: il) ls st H Q := by
  intro l p e R s M args below meth c G cA A b ρ Hm locs cells slots pc lsm Z hC hR hk hW h0 hst hls hc1 hc2 hZ
  obtain ⟨j, len, hd, hj, hx, ht⟩ := zchk_cons hk (by intro q; cases q) (by intro t q; cases q)
  obtain ⟨hX, hB, hL2, hret, hlk, hown, hts, hnk, hini, hK, hA, hsc⟩ := id hC
  simp only [zraw, List.mem_singleton, Prod.mk.injEq] at hj
  obtain ⟨rfl, rfl⟩ := hj
  have ht := ht.resolve_left (by simp [zte])
  simp only [zins] at h
  split at h
  next x st =>
    obtain ⟨hx2, hst⟩ := List.forall_mem_cons.mp hst
    refine lv_i2l (v := Int64.ofInt x) hX hB hd (zi2l hx2) ?_
    exact ih bc bs ls _ H h l p e R s M args below meth c G cA A b ρ Hm locs cells slots (pc + 1) lsm Z hC hR ht hW h0 (List.forall_mem_cons.mpr ⟨(z32_64 hx2), hst⟩) hls hc1 hc2 hZ
  next => exact h.elim
theorem zq_l2i {xs : Nat → Int} {L d : Nat} {sc : Bool} {m : Nat} {Q : zQ} {J : zJt} {C : zCt} {k : zKo} {il : List Instr} {bc bs : Nat} {ls : zLs} {st : List zV} {H : zH} (ih : zIH xs L d sc m Q k il) (h : zins J C sc xs L Q (.l2i) k bc bs ls st H) : zSN xs L d bc bs sc m (.l2i :: il) ls st H Q := by
  intro l p e R s M args below meth c G cA A b ρ Hm locs cells slots pc lsm Z hC hR hk hW h0 hst hls hc1 hc2 hZ
  obtain ⟨j, len, hd, hj, hx, ht⟩ := zchk_cons hk (by intro q; cases q) (by intro t q; cases q)
  obtain ⟨hX, hB, hL2, hret, hlk, hown, hts, hnk, hini, hK, hA, hsc⟩ := id hC
  simp only [zraw, List.mem_singleton, Prod.mk.injEq] at hj
  obtain ⟨rfl, rfl⟩ := hj
  have ht := ht.resolve_left (by simp [zte])
  simp only [zins] at h
  split at h
  next x st =>
    obtain ⟨hx2, hst⟩ := List.forall_mem_cons.mp hst
    obtain ⟨hg, h⟩ := h
    refine lv_l2i (v := Int32.ofInt x) hX hB hd (zl2i hx2) ?_
    exact ih bc bs ls _ H h l p e R s M args below meth c G cA A b ρ Hm locs cells slots (pc + 1) lsm Z hC hR ht hW h0 (List.forall_mem_cons.mpr ⟨hg, hst⟩) hls hc1 hc2 hZ
  next => exact h.elim
