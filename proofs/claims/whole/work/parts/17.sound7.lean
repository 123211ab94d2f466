theorem zq_ireturn {xs : Nat → Int} {L d : Nat} {sc : Bool} {m : Nat} {Q : zQ} {J : zJt} {C : zCt} {k : zKo} {il : List Instr} {bc bs : Nat} {ls : zLs} {st : List zV} {H : zH} (ih : zIH xs L d sc m Q k il) (h : zins J C sc xs L Q (.ireturn) k bc bs ls st H) : zSN xs L d bc bs sc m (.ireturn :: il) ls st H Q := by
  intro l p e R s M args below meth c G cA A b ρ Hm locs cells slots pc lsm Z hC hR hk hW h0 hst hls hc1 hc2 hZ
  obtain ⟨j, len, hd, hj, hx, ht⟩ := zchk_cons hk (by intro q; cases q) (by intro t q; cases q)
  obtain ⟨hX, hB, hL2, hret, hlk, hown, hts, hnk, hini, hK, hA, hsc⟩ := id hC
  simp only [zraw, List.mem_singleton, Prod.mk.injEq] at hj
  obtain ⟨rfl, rfl⟩ := hj
  simp only [zins] at h
  simp only [zext, decide_eq_true_eq] at hx
  split at h
  next x =>
    have hx2 := hst _ List.mem_cons_self
    have e1 : zRt m x = [.int (Int32.ofInt x)] := by unfold zRt; rw [hx]
    have hh := hZ x H ρ Hm locs cells slots pc lsm h hW (fun _ _ => rfl) (Nat.le_refl _) (by omega) (by omega) (Or.inr (Or.inl ⟨hx, hx2, hd⟩))
    rw [e1] at hh
    exact hh
  next => exact h.elim
theorem zq_areturn {xs : Nat → Int} {L d : Nat} {sc : Bool} {m : Nat} {Q : zQ} {J : zJt} {C : zCt} {k : zKo} {il : List Instr} {bc bs : Nat} {ls : zLs} {st : List zV} {H : zH} (ih : zIH xs L d sc m Q k il) (h : zins J C sc xs L Q (.areturn) k bc bs ls st H) : zSN xs L d bc bs sc m (.areturn :: il) ls st H Q := by
  intro l p e R s M args below meth c G cA A b ρ Hm locs cells slots pc lsm Z hC hR hk hW h0 hst hls hc1 hc2 hZ
  obtain ⟨j, len, hd, hj, hx, ht⟩ := zchk_cons hk (by intro q; cases q) (by intro t q; cases q)
  obtain ⟨hX, hB, hL2, hret, hlk, hown, hts, hnk, hini, hK, hA, hsc⟩ := id hC
  simp only [zraw, List.mem_singleton, Prod.mk.injEq] at hj
  obtain ⟨rfl, rfl⟩ := hj
  simp only [zins] at h
  simp only [zext, decide_eq_true_eq] at hx
  split at h
  next x =>
    obtain ⟨hr1, hr2, h⟩ := h
    have e1 : zRt m x = [.int (Int32.ofInt x)] := by unfold zRt; rw [hx]
    have hh := hZ x H ρ Hm locs cells slots pc lsm h hW (fun _ _ => rfl) (Nat.le_refl _) (by omega) (by omega) (Or.inr (Or.inr (Or.inl ⟨hx, ⟨hr1, hr2⟩, hd⟩)))
    rw [e1] at hh
    exact hh
  next => exact h.elim
theorem zq_lreturn {xs : Nat → Int} {L d : Nat} {sc : Bool} {m : Nat} {Q : zQ} {J : zJt} {C : zCt} {k : zKo} {il : List Instr} {bc bs : Nat} {ls : zLs} {st : List zV} {H : zH} (ih : zIH xs L d sc m Q k il) (h : zins J C sc xs L Q (.lreturn) k bc bs ls st H) : zSN xs L d bc bs sc m (.lreturn :: il) ls st H Q := by
  intro l p e R s M args below meth c G cA A b ρ Hm locs cells slots pc lsm Z hC hR hk hW h0 hst hls hc1 hc2 hZ
  obtain ⟨j, len, hd, hj, hx, ht⟩ := zchk_cons hk (by intro q; cases q) (by intro t q; cases q)
  obtain ⟨hX, hB, hL2, hret, hlk, hown, hts, hnk, hini, hK, hA, hsc⟩ := id hC
  simp only [zraw, List.mem_singleton, Prod.mk.injEq] at hj
  obtain ⟨rfl, rfl⟩ := hj
  simp only [zins] at h
  simp only [zext, decide_eq_true_eq] at hx
  split at h
  next x =>
    have hx2 := hst _ List.mem_cons_self
    have e1 : zRt m x = [.long (Int64.ofInt x)] := by unfold zRt; rw [hx]
    have hh := hZ x H ρ Hm locs cells slots pc lsm h hW (fun _ _ => rfl) (Nat.le_refl _) (by omega) (by omega) (Or.inr (Or.inr (Or.inr ⟨hx, hx2, hd⟩)))
    rw [e1] at hh
    exact hh
  next => exact h.elim
theorem zq_return {xs : Nat → Int} {L d : Nat} {sc : Bool} {m : Nat} {Q : zQ} {J : zJt} {C : zCt} {k : zKo} {il : List Instr} {bc bs : Nat} {ls : zLs} {st : List zV} {H : zH} (ih : zIH xs L d sc m Q k il) (h : zins J C sc xs L Q (.return_) k bc bs ls st H) : zSN xs L d bc bs sc m (.return_ :: il) ls st H Q := by
  intro l p e R s M args below meth c G cA A b ρ Hm locs cells slots pc lsm Z hC hR hk hW h0 hst hls hc1 hc2 hZ
  obtain ⟨j, len, hd, hj, hx, ht⟩ := zchk_cons hk (by intro q; cases q) (by intro t q; cases q)
  obtain ⟨hX, hB, hL2, hret, hlk, hown, hts, hnk, hini, hK, hA, hsc⟩ := id hC
  simp only [zraw, List.mem_singleton, Prod.mk.injEq] at hj
  obtain ⟨rfl, rfl⟩ := hj
  simp only [zins] at h
  simp only [zext, decide_eq_true_eq] at hx
  split at h
  next =>
    have e1 : zRt m 0 = [] := by unfold zRt; rw [hx]
    have hh := hZ 0 H ρ Hm locs cells slots pc lsm h hW (fun _ _ => rfl) (Nat.le_refl _) (by omega) (by omega) (Or.inl ⟨hx, hd⟩)
    rw [e1] at hh
    exact hh
  next => exact h.elim
def zws (m : Nat) : List Cond := Cond.code (zy m) (zcc m) (zml m) (zre m) :: zTb
def zrm (d b1 b2 : Nat) : Room := { frames := d + 1, cells := b1, slots := b2, locals := 60 * (d + 1) }
def zRv (m : Nat) (r : Int) : Prop := (zre m = some .int → z32 r) ∧ (zre m = some .boolean → z32 r) ∧ (zre m = some .long → z64 r)
def zQc (m : Nat) (Q1 : zQ) (G : va_G) (cA : Nat → ClassId) (ρ : Nat → Nat) (H : zH) (sz : Nat) : Array Value → State → Outcome → State → Prop := fun _ st oc t =>
  (∃ (r : Int) (H' : zH) (ρ' : Nat → Nat), oc = .returned (zRt m r).head? ∧ Q1 r H' ∧ zgo H' ∧ (∀ a, a < zS H → ρ' a = ρ a) ∧ zS H ≤ zS H' ∧ zRv m r ∧ va_P G zcl (zw cA ρ' H') t.heap ∧ va_D (va_A (zw cA ρ H) sz) (zw cA ρ' H')) ∧ va_F (va_A (zw cA ρ H) sz) st t
theorem zmf_init {m : Nat} (h : zmf m = true) : Cond.initialized (zy m).cls ∈ zTb := by
  simp only [zmf, Bool.and_eq_true, decide_eq_true_eq] at h
  exact zTm (List.mem_of_getElem? h.1.1.1.1.1.1.1) rfl
theorem zmf_ml {m : Nat} (h : zmf m = true) : zml m ≤ 20 := by
  simp only [zmf, Bool.and_eq_true, decide_eq_true_eq] at h
  exact h.1.1.1.1.1.2
theorem zmf_plain {m : Nat} (h : zmf m = true) : plainName (zy m).cls = true := by
  simp only [zmf, Bool.and_eq_true, decide_eq_true_eq] at h
  exact h.1.1.1.1.2
theorem zmf_nh {m : Nat} (h : zmf m = true) : (zy m).cls ≠ "java/lang/invoke/MethodHandle" ∧ (zy m).cls ≠ "java/lang/invoke/VarHandle" := by
  simp only [zmf, Bool.and_eq_true, decide_eq_true_eq] at h
  exact h.1.1.1.2
theorem zmf_rk {m : Nat} (h : zmf m = true) : (zre m = none ∧ (zMi m).2.2.1 = 0) ∨ ((zre m = some .int ∨ zre m = some .boolean) ∧ (zMi m).2.2.1 = 1) ∨ (zre m = some .long ∧ (zMi m).2.2.1 = 2) := by
  simp only [zmf, Bool.and_eq_true, decide_eq_true_eq] at h
  exact h.1.1.2
theorem zmf_pr {m : Nat} (h : zmf m = true) : (m, 0) ∈ zPr := by
  simp only [zmf, Bool.and_eq_true, decide_eq_true_eq] at h
  exact h.1.2
theorem zmf_ct {m : Nat} (h : zmf m = true) (hc : zct m = true) : zre m = none := by
  simp only [zmf, Bool.and_eq_true, decide_eq_true_eq] at h
  have := h.2
  rw [hc] at this
  simpa using this
theorem zmf_st {m : Nat} (h : zmf m = true) (h0 : (zMi m).2.2.2.2.2.2 = 0) : Cond.static (zy m) ∈ zTb ∧ (parseMethodDescriptor (zy m).desc).map (fun d => d.parameters.length) = some (zMi m).2.1 := by
  simp only [zmf, Bool.and_eq_true, decide_eq_true_eq] at h
  have := h.1.1.1.1.1.1.2
  rw [if_pos h0] at this
  simp only [Bool.and_eq_true, decide_eq_true_eq] at this
  exact ⟨zTm (List.mem_of_getElem? this.1) rfl, this.2⟩
theorem zmf_in {m : Nat} (h : zmf m = true) (h0 : (zMi m).2.2.2.2.2.2 ≠ 0) : Cond.instanceMethod (zy m) ∈ zTb ∧ (zct m = true ∨ Cond.selects (zy m).cls (zy m) (zy m) ∈ zTb) ∧ (parseMethodDescriptor (zy m).desc).map (fun d => d.parameters.length + 1) = some (zMi m).2.1 ∧ (zcl[(zMi m).1]?).map (fun q => q.1) = some (zy m).cls := by
  simp only [zmf, Bool.and_eq_true, decide_eq_true_eq] at h
  have := h.1.1.1.1.1.1.2
  rw [if_neg h0] at this
  simp only [Bool.and_eq_true, Bool.or_eq_true, decide_eq_true_eq] at this
  exact ⟨zTm (List.mem_of_getElem? this.1.1.1) rfl, this.1.1.2.imp id (fun q => zTm (List.mem_of_getElem? q) rfl), this.1.2, this.2⟩
theorem zgoodIn {m : Nat} (hm : m < 307) : GoodIn zTb (zws m) := by
  intro w hw
  have hw2 : w ∈ zTb := by
    rcases List.mem_cons.mp hw with rfl | hw
    · exact zTm (zcode_all m hm) rfl
    · exact hw
  exact ⟨hw2, good_of_word (List.mem_filter.mp hw2).2⟩
theorem zlg {ρ : Nat → Nat} : ∀ args : List zV, (lg_sl (args.map (zv ρ))).length = (zlo args).length ∧ (∀ (i j : Nat) (v : zV), (zlo args)[i]? = some (some v) → v ∈ args ∧ (i + j, zv ρ v) ∈ lv_args j (args.map (zv ρ)))
  | [] => ⟨rfl, fun i j v h => by simp [zlo] at h⟩
  | v :: vs => by
    obtain ⟨h1, h2⟩ := zlg (ρ := ρ) vs
    match v with
    | .inl x =>
      refine ⟨by simpa [zlo, lg_sl, zv, Value.category] using h1, fun i j w h => ?_⟩
      cases i with
      | zero => simp [zlo] at h; subst h; exact ⟨List.mem_cons_self, by simp [lv_args]⟩
      | succ i =>
        have h : (zlo vs)[i]? = some (some w) := by simpa [zlo] using h
        obtain ⟨g1, g2⟩ := h2 i (j + 1) w h
        refine ⟨List.mem_cons_of_mem _ g1, List.mem_cons_of_mem _ ?_⟩
        rw [show i + 1 + j = i + (j + 1) by omega]
        exact g2
    | .inr (.inl x) =>
      refine ⟨by simpa [zlo, lg_sl, zv, Value.category] using h1, fun i j w h => ?_⟩
      match i, h with
      | 0, h => simp [zlo] at h; subst h; exact ⟨List.mem_cons_self, by simp [lv_args]⟩
      | 1, h => simp [zlo] at h
      | i + 2, h =>
        have h : (zlo vs)[i]? = some (some w) := by simpa [zlo] using h
        obtain ⟨g1, g2⟩ := h2 i (j + 2) w h
        refine ⟨List.mem_cons_of_mem _ g1, List.mem_cons_of_mem _ ?_⟩
        rw [show i + 2 + j = i + (j + 2) by omega]
        exact g2
    | .inr (.inr r) =>
      have hc : (zv ρ (.inr (.inr r))).category = 1 := zcat3
      have hr : zlo (Sum.inr (Sum.inr r) :: vs) = some (.inr (.inr r)) :: zlo vs := rfl
      refine ⟨by
        rw [hr]
        simp only [List.map_cons, lg_sl, List.flatMap_cons, List.length_append, List.length_cons] at h1 ⊢
        rw [h1]
        simp [hc]
        omega, fun i j w h => ?_⟩
      rw [hr] at h
      cases i with
      | zero => simp at h; subst h; exact ⟨List.mem_cons_self, by simp [lv_args]⟩
      | succ i =>
        have h : (zlo vs)[i]? = some (some w) := by simpa using h
        obtain ⟨g1, g2⟩ := h2 i (j + 1) w h
        refine ⟨List.mem_cons_of_mem _ g1, List.mem_cons_of_mem _ ?_⟩
        rw [show i + 1 + j = i + (j + 1) by omega, if_neg (by omega)]
        exact g2
theorem zent_lo {ρ : Nat → Nat} {m n : Nat} {args : List zV} {lsm : Array Slot} (hl : (zlo args).length ≤ zml m) (h : lv_has lsm (zml m) (lv_args 0 (args.map (zv ρ)))) (ha : ∀ v ∈ args, zvo n v) : zLo ρ n (zml m) (zent m args) lsm := by
  refine ⟨by simp [zent]; omega, h.1, h.2.1, fun i v hv => ?_⟩
  unfold zent at hv
  by_cases hi : i < (zlo args).length
  · rw [List.getElem?_append_left hi] at hv
    obtain ⟨g1, g2⟩ := (zlg (ρ := ρ) args).2 i 0 v hv
    exact ⟨h.2.2 _ g2, ha v g1⟩
  · rw [List.getElem?_append_right (by omega), List.getElem?_replicate] at hv
    split at hv <;> cases hv
set_option maxHeartbeats 4000000 in
/-- a run of the interpreter is a contract of the machine's -/
theorem zMet {xs : Nat → Int} {L d b1 b2 m : Nat} {args : List zV} {H : zH} {Q1 : zQ} (hm : m < 307) (hS : zSN xs L d b1 b2 false m (zblk m 0) (zent m args) [] H Q1) (hlen : (zlo args).length ≤ zml m) (l : Launch) (G : va_G) (cA : Nat → ClassId) (ρ : Nat → Nat) (hargs : ∀ v ∈ args, zvo (zS H) v) (hg : zgo H) (sz : Nat) :
    Met l (zy m) (zws m) (zrm d b1 b2) (va_Pc (args.map (zv ρ)) (fun U => U.heap.size = sz ∧ va_P G zcl (zw cA ρ H) U.heap ∧ va_K G zcl (zty cA) U ∧ va_D (fun _ => True) (zw cA ρ H) ∧ zNK U)) (zQc m Q1 G cA ρ H sz) b1 b2 (va_A (zw cA ρ H) sz) := by
  have hf := zmf_all m hm
  refine Met.ofW (cc := zcc m) (maxL := zml m) (ret := zre m) (zmf_plain hf) rfl ?_
  intro p e s M args' below meth c s₁ B hml hv
  obtain ⟨rfl, hsz, hP, hK, hD, hnk⟩ := hv
  have hts : ∀ w ∈ zws m, w.before _ s = true := atoms_spec B.pre
  have hown : s.vm.findClass (zon m) = some M.cls := findClass_of_methodNamed B.named
  have hlk : meth.locks = false := B.notSynchronized
  have hl := lv_entry (args.map (zv ρ)) (n := zml m) (by rw [(zlg args).1]; exact hlen)
  rw [lg_entry_eq]
  generalize (lg_sl (args.map (zv ρ)) ++ List.replicate (zml m - (lg_sl (args.map (zv ρ))).length) Slot.unset).toArray = lsm at hl ⊢
  have hA : ∀ q, s.heap.size ≤ q → va_A (zw cA ρ H) sz q := fun q hq => Or.inr (by omega)
  have hB := B.bytes
  have hX := B.exec
  have hrt := B.returns
  refine hS l p e _ s M _ below meth c G cA (va_A (zw cA ρ H) sz) 0 ρ s.heap [] 0 0 0 lsm _ ⟨hX, hB, hml, hrt, hlk, hown, fun w hw => hts w (List.mem_cons_of_mem _ hw), hnk, fun hc => ?_, hK, hA, fun q => by cases q⟩ ⟨Nat.le_refl _, Nat.le_refl _⟩ (zh_all (m, 0) (zmf_pr hf)) ⟨hP, hD.self, va_S.rf, hg⟩ (fun q => by cases q) (fun v hv => by cases hv) (zent_lo hlen hl hargs) (by show 0 + b1 ≤ b1; omega) (by show 0 + b2 ≤ b2; omega) ?_
  · rw [(name_of_methodNamed B.named B.method).1]
    exact beq_iff_eq.mp hc
  intro r H' ρ' Hm' locs' cells' slots' pc' lsm' hQ hW' hext hle hc hs hEn
  refine W.widen (k := b1) (n := b2) (by omega) (by omega) ?_
  have hend : ∀ (t : State), t.heap = Hm' → zRv m r → zQc m Q1 G cA ρ H sz (args.map (zv ρ)).toArray s (.returned (zRt m r).head?) t := fun t ht hv => ⟨⟨r, H', ρ', rfl, hQ, hW'.2.2.2, hext, hle, hv, by rw [ht]; exact hW'.1, hW'.2.1⟩, hW'.2.2.1.F ht⟩
  rcases hEn with ⟨e1, hd⟩ | ⟨e1, h32, hd⟩ | ⟨e1, h01, hd⟩ | ⟨e1, h64, hd⟩
  · have e2 : zRt m r = [] := by unfold zRt; rw [e1]
    rw [e2] at hend ⊢
    exact W.vret hX hB (hrt.trans e1) (fun t ht _ => hend t ht ⟨fun q => (by rw [e1] at q; cases q), fun q => (by rw [e1] at q; cases q), fun q => (by rw [e1] at q; cases q)⟩) hW'.2.2.1.2.2 hd hlk
  · have e2 : zRt m r = [.int (Int32.ofInt r)] := by unfold zRt; rw [e1]
    rw [e2] at hend ⊢
    exact W.iret hX hB (hrt.trans e1) (fun t ht _ => hend t ht ⟨fun q => h32, fun q => (by rw [e1] at q; cases q), fun q => (by rw [e1] at q; cases q)⟩) hW'.2.2.1.2.2 hd hlk
  · have e2 : zRt m r = [.int (Int32.ofInt r)] := by unfold zRt; rw [e1]
    have h32 : z32 r := ⟨by omega, by omega⟩
    rw [e2] at hend ⊢
    exact W.zret (ty := .boolean) hX hB (hrt.trans e1) (by rcases (show r = 0 ∨ r = 1 by omega) with rfl | rfl <;> rfl) (fun t ht _ => hend t ht ⟨fun q => h32, fun q => h32, fun q => (by rw [e1] at q; cases q)⟩) hW'.2.2.1.2.2 hd hlk
  · have e2 : zRt m r = [.long (Int64.ofInt r)] := by unfold zRt; rw [e1]
    rw [e2] at hend ⊢
    exact W.lret hX hB (hrt.trans e1) (fun t ht _ => hend t ht ⟨fun q => (by rw [e1] at q; cases q), fun q => (by rw [e1] at q; cases q), fun q => h64⟩) hW'.2.2.1.2.2 hd hlk
