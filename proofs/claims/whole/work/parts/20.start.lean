/-! THE CLAIM OUT OF ONE WALK OF THE LAW'S BODY. Your part is whole_start (and what it stands on); all else here is the same for every law, but numbers. -/
def R_law : String := "StagePairLaw"
def lw_P (b : Addr) (xs : List Int32) (args : Array Value) (s : State) : Prop := args = #[.ref b] ∧ s.IntsAt b xs ∧ xs.length ≤ 3072 ∧ (Jvm.Cond.and given_1 narrow_1).before args s = true
def lw_Q (_ : Array Value) (s : State) (o : Outcome) (t : State) : Prop := o = .returned (some (.int 1)) ∧ Framed s o t [] 600000 7302250
def lw_Z (below : List Frame) (a : Array Value) (s : State) : State → Prop := fun t => ∃ o, t.status = .running ∧ Ended t below o ∧ lw_Q a s o t
/-- the law's own end, with 1 on the stack, nothing written that was there before, its room as the claim has it -/
theorem lw_ret {p : Program} {l : Launch} {e : Env} {s : State} {m : MethodId} {below : List Frame} {meth : Method} {c : Code} {b : Nat} (hx : p.tables.exec = Jvm.exec) (hb : c.code = code) (hr : meth.sig.returnType = ret) (hlocks : meth.locks = false) {pc : Nat} {H : Heap} {ls : Array Slot} (hdg : decode code pc = .ok (.ireturn, 1)) : W p l e room_1 s m #[Value.ref b] below meth c H [] 600000 7302250 (lw_Z below #[Value.ref b] s) (F0 m pc ls [.int 1]) := by
  intro T hT X
  obtain ⟨fs, hret, hrun, hended, hW, hframe⟩ := X.leave (v := some (.int 1)) (hlocks := hlocks) (fun h => by rw [hr] at h; cases h)
  have hmeth' : T.vm.method? m = some meth := X.method'
  refine ⟨T.setFrames fs, ?_, .returned (some (.int 1)), hrun, hended, rfl, ⟨_, rfl⟩, hW, hframe⟩
  jvm_step X.here [X.here.top, hx, hb, hdg, hmeth', hr, ret, narrow_b1]
  (try refine ⟨rfl, ?_⟩); (try refine ⟨rfl, ?_⟩)
  first | (intro acts; rw [hret _ acts rfl rfl rfl]) | rw [hret _ _ rfl rfl rfl]
  exact Steps.refl _
/-- what holds at the law's entry: the machine, the code, the tables' words (any of lw_tbl by 'hts w (by decide +kernel)'), the script of L ints xs at the cell b, what the Statement gives of the start (any of its parts by flat_of_before) -/
def lw_At (p : Program) (s : State) (m : MethodId) (meth : Method) (c : Code) (b L : Nat) (xs : Nat → Int32) : Prop :=
  p.tables.exec = Jvm.exec ∧ c.code = code ∧ meth.sig.returnType = ret ∧ c.maxLocals = 4 ∧ s.vm.findClass R_law = some m.cls ∧ (∀ w ∈ lw_tbl, w.before #[Value.ref b] s = true) ∧ va_X b L xs s s.heap ∧ b < s.heap.size ∧ meth.locks = false ∧ (Jvm.Cond.and given_1 narrow_1).before #[Value.ref b] s = true
/-- the heap at the law's entry: nothing but the script, number 0 -/
def zH0 : zH := (1, fun _ => (999, 0), fun _ _ => 0, fun _ _ => none)
theorem zx_ac {s : State} {args : Array Value} {ty : FieldType} (h : (Cond.arrayClass ty).before args s = true) (hp : ∀ C, ty ≠ .object C) : ∃ cA : ClassId, ArrOfT s cA ty ∧ va_RA s cA ty := by
  obtain ⟨cA, kA, comp, h1, h2, h3⟩ := Cond.arrayClass_spec h
  refine ⟨cA, fun n z => ⟨fun k h => (by cases h), kA, h2, comp, h3⟩, ?_⟩
  cases ty with
  | object C => exact absurd rfl (hp C)
  | _ => exact h1
theorem zx_ao {s : State} {args : Array Value} {C : String} (h : (Cond.arrayOver (.object C)).before args s = true) : ∃ cA : ClassId, ArrOfT s cA (.object C) ∧ va_RA s cA (.object C) := by
  obtain ⟨comp, cA, kA, h1, -, h2, h3, h4⟩ := Cond.arrayOver_spec h
  exact ⟨cA, fun n z => ⟨fun k h => (by cases h), kA, h2, comp, h3⟩, kA, comp, h2, h3, h1, h4⟩
theorem zx_K {s : State} {args : Array Value} (hts : ∀ w ∈ lw_tbl, w.before args s = true) : ∃ (G : va_G) (cA : Nat → ClassId), va_K G zcl (zty cA) s := by
  have htT : ∀ w ∈ zTb, w.before args s = true := fun w hw => hts w (List.mem_filter.mp hw).1
  have h1 : ∀ k : Nat, ∃ q : ClassId × (Nat → Nat), ∀ r, zcl[k]? = some r → u_Kn s r.1 r.2.1 r.2.2 q.1 q.2 := by
    intro k
    cases hq : zcl[k]? with
    | none => exact ⟨(0, fun _ => 0), fun r h => by cases h⟩
    | some r =>
      have hm := List.mem_of_getElem? hq
      obtain ⟨c, iS, h⟩ := u_known (C := r.1) (T := r.2.1) (N := r.2.2) htT (zcl_in r hm) (hts _ (zcl_inst r hm).1)
      exact ⟨(c, iS), fun r' h' => by cases h'; exact h⟩
  obtain ⟨c0, a0, b0⟩ := zx_ac (hts _ ztb_arr.1) (by intro C h; cases h)
  obtain ⟨c1, a1, b1⟩ := zx_ac (hts _ ztb_arr.2.1) (by intro C h; cases h)
  obtain ⟨c2, a2, b2⟩ := zx_ac (hts _ ztb_arr.2.2.1) (by intro C h; cases h)
  obtain ⟨c3, a3, b3⟩ := zx_ac (hts _ ztb_arr.2.2.2.1) (by intro C h; cases h)
  obtain ⟨c4, a4, b4⟩ := zx_ao (hts _ ztb_arr.2.2.2.2)
  refine ⟨(fun k => (Classical.choose (h1 k)).1, fun k => (Classical.choose (h1 k)).2), fun k => if k = 0 then c0 else if k = 1 then c1 else if k = 2 then c2 else if k = 3 then c3 else c4, fun k r hr => Classical.choose_spec (h1 k) r hr, fun k q hk => ?_⟩
  match k, hk with
  | 0, hk => cases hk; exact ⟨a0, b0⟩
  | 1, hk => cases hk; exact ⟨a1, b1⟩
  | 2, hk => cases hk; exact ⟨a2, b2⟩
  | 3, hk => cases hk; exact ⟨a3, b3⟩
  | 4, hk => cases hk; exact ⟨a4, b4⟩
  | k + 5, hk => simp [zty] at hk
theorem z307 : zcc 307 = code ∧ zml 307 = 4 ∧ zre 307 = ret ∧ zon 307 = R_law ∧ zct 307 = false := ⟨rfl, rfl, rfl, rfl, by decide⟩
set_option maxHeartbeats 4000000 in
/-- the claim's walk out of a run of the interpreter -/
theorem zwhole (hEV : ∀ (xs : Nat → Int) (L : Nat), L ≤ 3072 → (∀ j, z32 (xs j)) → zEV xs L 100 600000 7302250 true 307 (zblk 307 0) [some (zr (some 0)), none, none, none] [] zH0 (fun r _ => r = 1))
    {p : Program} {e : Env} {s : State} {m : MethodId} {below : List Frame} {meth : Method} {c : Code} (l : Launch) {b L : Nat} {xs : Nat → Int32} (hL : L ≤ 3072) (C0 : lw_At p s m meth c b L xs) : W p l e room_1 s m #[Value.ref b] below meth c s.heap [] 0 0 (lw_Z below #[Value.ref b] s) (entryFrame m ([Value.ref b] : List Value).toArray 4) := by
  obtain ⟨hx, hb, hr, hml, hown, hts, hX, hbl, hlocks, hgv⟩ := id C0
  obtain ⟨G, cA, hK⟩ := zx_K hts
  have hl := lv_entry ([.ref b]) (n := 4) (Nat.le_of_ble_eq_true rfl)
  rw [lg_entry_eq]
  generalize (lg_sl ([.ref b]) ++ List.replicate (4 - (lg_sl ([.ref b])).length) Slot.unset).toArray = ls at hl ⊢
  have hgo : zgo zH0 := ⟨Nat.le_refl 1, rfl, fun a h1 h2 => (by have h2 : a < 1 := h2; omega), fun a _ h => (by cases h)⟩
  refine zsound (hEV (fun j => (xs j).toInt) L hL (fun j => z32_o _)) l p e room_1 s m #[Value.ref b] below meth c G cA (fun q => s.heap.size ≤ q) b (fun _ => b) s.heap [] 0 0 0 ls _ ⟨hx, hb, hml, hr, hlocks, hown, fun w hw => hts w (List.mem_filter.mp hw).1, ⟨fun w hw he => (by obtain ⟨a, i, x, k, rfl⟩ := he; exact va_Nw.of rfl (hts _ hw)), va_AO.of (hts _ ztb_arr.2.2.2.2)⟩, fun q => (by rw [z307.2.2.2.2] at q; cases q), hK, fun q h => h, fun _ => ⟨?_, hbl, Nat.not_le.mpr hbl, fun j => z32_o _, by omega⟩⟩ ⟨by decide, by decide⟩ (zh_all (307, 0) (by decide +kernel)) ⟨fun k q h => (by cases h), ⟨fun i j p q h => (by cases h), fun k q h => (by cases h)⟩, va_S.rf, hgo⟩ (fun _ => rfl) (fun v hv => (by cases hv)) ⟨rfl, hl.1, hl.2.1, fun i v hv => ?_⟩ (by decide) (by decide) ?_
  · simp only [zoi]
    exact hX
  · match i, hv with
    | 0, hv =>
      cases hv
      exact ⟨hl.2.2 (0, .ref b) (by simp [lv_args]), fun a ha => by cases ha; exact Nat.lt_succ_self 0⟩
    | 1, hv => cases hv
    | 2, hv => cases hv
    | 3, hv => cases hv
    | i + 4, hv => simp at hv
  · intro r H' ρ' Hm' locs' cells' slots' pc' lsm' hQ hW' _ _ hc hs hEn
    have hQ : r = 1 := hQ
    subst hQ
    refine va_forget hW'.2.2.1.2.2 ?_
    refine W.widen (k := 600000) (n := 7302250) (by omega) (by omega) ?_
    have hre : zre 307 = some .boolean := rfl
    rcases hEn with ⟨e1, _⟩ | ⟨e1, _⟩ | ⟨_, _, hd⟩ | ⟨e1, _⟩
    · rw [hre] at e1; cases e1
    · rw [hre] at e1; cases e1
    · exact lw_ret hx hb hr hlocks hd
    · rw [hre] at e1; cases e1
