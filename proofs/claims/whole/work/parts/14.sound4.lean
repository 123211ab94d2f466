theorem zel {H : zH} {a j : Nat} (hg : zgo H) (h1 : 1 ≤ a) (h2 : a < zS H) (hj : j < zN H a) : zok1 (zS H) (zet (zK H a) j) (zA H a j) (zR H a j) := (hg.2.2.1 a h1 h2).2 j hj
theorem zsz {H : zH} {a : Nat} (hg : zgo H) (h1 : 1 ≤ a) (h2 : a < zS H) (hk : 100 ≤ zK H a) : zN H a ≤ 1000000 := by
  rcases (hg.2.2.1 a h1 h2).1 with h | h
  · omega
  · exact h.2.2
theorem znf_eq {H : zH} {a : Nat} (hg : zgo H) (h1 : 1 ≤ a) (h2 : a < zS H) (hk : zK H a < 16) : zN H a = znf (zK H a) ∧ zK H a < 13 := by
  rcases (hg.2.2.1 a h1 h2).1 with h | h
  · exact ⟨h.2, h.1⟩
  · omega
theorem znar_b {x : Int} (h1 : -128 ≤ x) (h2 : x ≤ 127) : vp_nar .byte (Int32.ofInt x) = Int32.ofInt x := by
  rw [vp_nar_byte]
  apply Int32.toInt_inj.mp
  rw [Int8.toInt_toInt32, Int32.toInt_toInt8, z32_i ⟨by omega, by omega⟩]
  simp only [Int.bmod]
  split <;> omega
theorem znar_z {x : Int} (h1 : 0 ≤ x) (h2 : x ≤ 1) : vp_nar .boolean (Int32.ofInt x) = Int32.ofInt x := by
  rcases (show x = 0 ∨ x = 1 by omega) with rfl | rfl <;> decide
theorem zup {f : Nat → Int} {k j : Nat} {x : Int} : upd (fun j => Int32.ofInt (f j)) k (Int32.ofInt x) j = Int32.ofInt (if j = k then x else f j) := by
  unfold upd
  split <;> rfl
theorem zupL {f : Nat → Int} {k j : Nat} {x : Int} : vp_updL (fun j => Int64.ofInt (f j)) k (Int64.ofInt x) j = Int64.ofInt (if j = k then x else f j) := by
  unfold vp_updL
  split <;> rfl
theorem zif {p q : Prop} [Decidable q] [Decidable (p ∧ q)] (hp : p) {α : Type} (x y : α) : (if p ∧ q then x else y) = if q then x else y := by
  by_cases h : q
  · rw [if_pos h, if_pos ⟨hp, h⟩]
  · rw [if_neg h, if_neg (fun z => h z.2)]
theorem zRA_eq {cA : Nat → ClassId} {c' : ClassId} {s : State} {ty : FieldType} {C : String} (h1 : va_RA s (cA 4) ty) (h2 : va_RA s c' ty) (hty : ty = .object C) : c' = cA 4 := by
  subst hty
  obtain ⟨_, _, _, _, _, e1⟩ := h1
  obtain ⟨_, _, _, _, _, e2⟩ := h2
  exact Option.some.inj (e2.symm.trans e1)
theorem zq_iaload {xs : Nat → Int} {L d : Nat} {sc : Bool} {m : Nat} {Q : zQ} {J : zJt} {C : zCt} {k : zKo} {il : List Instr} {bc bs : Nat} {ls : zLs} {st : List zV} {H : zH} (ih : zIH xs L d sc m Q k il) (h : zins J C sc xs L Q (.iaload) k bc bs ls st H) : zSN xs L d bc bs sc m (.iaload :: il) ls st H Q := by
  intro l p e R s M args below meth c G cA A b ρ Hm locs cells slots pc lsm Z hC hR hk hW h0 hst hls hc1 hc2 hZ
  obtain ⟨j, len, hd, hj, hx, ht⟩ := zchk_cons hk (by intro q; cases q) (by intro t q; cases q)
  obtain ⟨hX, hB, hL2, hret, hlk, hown, hts, hnk, hini, hK, hA, hsc⟩ := id hC
  simp only [zraw, List.mem_singleton, Prod.mk.injEq] at hj
  obtain ⟨rfl, rfl⟩ := hj
  have ht := ht.resolve_left (by simp [zte])
  simp only [zins] at h
  split at h
  next i a st =>
    obtain ⟨hi, hst⟩ := List.forall_mem_cons.mp hst
    obtain ⟨ha, hst⟩ := List.forall_mem_cons.mp hst
    split at h
    next hs =>
      obtain ⟨h1, h2, h⟩ := h
      obtain ⟨hq1, hq2, hq3, hq4, hq5⟩ := hsc hs.1
      obtain ⟨hin, hcl⟩ := z_in h1 h2 hq5
      have e0 : ρ a = b := by rw [hs.2]; exact h0 hs.1
      have e1 : List.map (zv ρ) (Sum.inl i :: Sum.inr (Sum.inr (some a)) :: st) = .int (Int32.ofInt i) :: .ref b :: st.map (zv ρ) := by rw [← e0]; rfl
      rw [e1]
      refine va_sld hX hB hq1 hq2 hq3 hW.2.2.1 hin hd ?_
      rw [hcl]
      exact ih bc bs ls _ H h l p e R s M args below meth c G cA A b ρ Hm locs cells slots (pc + 1) lsm Z hC hR ht hW h0 (List.forall_mem_cons.mpr ⟨(hq4 _), hst⟩) hls hc1 hc2 hZ
    next hs =>
      obtain ⟨hkd, h1, h2, h⟩ := h
      have hal := ha a rfl
      have ha1 := zgo_lt hW.2.2.2 hal (by omega)
      have hN := zsz hW.2.2.2 ha1 hal (by omega)
      obtain ⟨hin, hcl⟩ := z_in h1 h2 hN
      have he := zw_at (cA := cA) (ρ := ρ) ha1 hal
      have hel := zel hW.2.2.2 ha1 hal (show i.toNat < zN H a by omega)
      rw [zce_int hkd] at he
      rw [hkd] at hel
      refine va_iald hX hB hK hW.1 (a - 1) 0 he rfl hin hd ?_
      rw [hcl]
      exact ih bc bs ls _ H h l p e R s M args below meth c G cA A b ρ Hm locs cells slots (pc + 1) lsm Z hC hR ht hW h0 (List.forall_mem_cons.mpr ⟨hel, hst⟩) hls hc1 hc2 hZ
  next => exact h.elim
theorem zq_baload {xs : Nat → Int} {L d : Nat} {sc : Bool} {m : Nat} {Q : zQ} {J : zJt} {C : zCt} {k : zKo} {il : List Instr} {bc bs : Nat} {ls : zLs} {st : List zV} {H : zH} (ih : zIH xs L d sc m Q k il) (h : zins J C sc xs L Q (.baload) k bc bs ls st H) : zSN xs L d bc bs sc m (.baload :: il) ls st H Q := by
  intro l p e R s M args below meth c G cA A b ρ Hm locs cells slots pc lsm Z hC hR hk hW h0 hst hls hc1 hc2 hZ
  obtain ⟨j, len, hd, hj, hx, ht⟩ := zchk_cons hk (by intro q; cases q) (by intro t q; cases q)
  obtain ⟨hX, hB, hL2, hret, hlk, hown, hts, hnk, hini, hK, hA, hsc⟩ := id hC
  simp only [zraw, List.mem_singleton, Prod.mk.injEq] at hj
  obtain ⟨rfl, rfl⟩ := hj
  have ht := ht.resolve_left (by simp [zte])
  simp only [zins] at h
  split at h
  next i a st =>
    obtain ⟨hi, hst⟩ := List.forall_mem_cons.mp hst
    obtain ⟨ha, hst⟩ := List.forall_mem_cons.mp hst
    obtain ⟨hkd, h1, h2, h⟩ := h
    have hal := ha a rfl
    have ha1 := zgo_lt hW.2.2.2 hal (by omega)
    have hN := zsz hW.2.2.2 ha1 hal (by omega)
    obtain ⟨hin, hcl⟩ := z_in h1 h2 hN
    have he := zw_at (cA := cA) (ρ := ρ) ha1 hal
    have hel := zel hW.2.2.2 ha1 hal (show i.toNat < zN H a by omega)
    rcases hkd with hkd | hkd
    · rw [zce_byte hkd] at he
      rw [hkd] at hel
      refine va_bald hX hB hK hW.1 (a - 1) 1 he rfl hin hd ?_
      rw [hcl]
      have hel : -128 ≤ zA H a i.toNat ∧ zA H a i.toNat ≤ 127 := hel
      exact ih bc bs ls _ H h l p e R s M args below meth c G cA A b ρ Hm locs cells slots (pc + 1) lsm Z hC hR ht hW h0 (List.forall_mem_cons.mpr ⟨(⟨by omega, by omega⟩ : z32 _), hst⟩) hls hc1 hc2 hZ
    · rw [zce_bool hkd] at he
      rw [hkd] at hel
      refine va_zald hX hB hK hW.1 (a - 1) 2 he rfl hin hd ?_
      rw [hcl]
      have hel : 0 ≤ zA H a i.toNat ∧ zA H a i.toNat ≤ 1 := hel
      exact ih bc bs ls _ H h l p e R s M args below meth c G cA A b ρ Hm locs cells slots (pc + 1) lsm Z hC hR ht hW h0 (List.forall_mem_cons.mpr ⟨(⟨by omega, by omega⟩ : z32 _), hst⟩) hls hc1 hc2 hZ
  next => exact h.elim
theorem zq_laload {xs : Nat → Int} {L d : Nat} {sc : Bool} {m : Nat} {Q : zQ} {J : zJt} {C : zCt} {k : zKo} {il : List Instr} {bc bs : Nat} {ls : zLs} {st : List zV} {H : zH} (ih : zIH xs L d sc m Q k il) (h : zins J C sc xs L Q (.laload) k bc bs ls st H) : zSN xs L d bc bs sc m (.laload :: il) ls st H Q := by
  intro l p e R s M args below meth c G cA A b ρ Hm locs cells slots pc lsm Z hC hR hk hW h0 hst hls hc1 hc2 hZ
  obtain ⟨j, len, hd, hj, hx, ht⟩ := zchk_cons hk (by intro q; cases q) (by intro t q; cases q)
  obtain ⟨hX, hB, hL2, hret, hlk, hown, hts, hnk, hini, hK, hA, hsc⟩ := id hC
  simp only [zraw, List.mem_singleton, Prod.mk.injEq] at hj
  obtain ⟨rfl, rfl⟩ := hj
  have ht := ht.resolve_left (by simp [zte])
  simp only [zins] at h
  split at h
  next i a st =>
    obtain ⟨hi, hst⟩ := List.forall_mem_cons.mp hst
    obtain ⟨ha, hst⟩ := List.forall_mem_cons.mp hst
    obtain ⟨hkd, h1, h2, h⟩ := h
    have hal := ha a rfl
    have ha1 := zgo_lt hW.2.2.2 hal (by omega)
    have hN := zsz hW.2.2.2 ha1 hal (by omega)
    obtain ⟨hin, hcl⟩ := z_in h1 h2 hN
    have he := zw_at (cA := cA) (ρ := ρ) ha1 hal
    have hel := zel hW.2.2.2 ha1 hal (show i.toNat < zN H a by omega)
    rw [zce_long hkd] at he
    rw [hkd] at hel
    refine va_lald hX hB hK hW.1 (a - 1) 3 he rfl hin hd ?_
    rw [hcl]
    exact ih bc bs ls _ H h l p e R s M args below meth c G cA A b ρ Hm locs cells slots (pc + 1) lsm Z hC hR ht hW h0 (List.forall_mem_cons.mpr ⟨hel, hst⟩) hls hc1 hc2 hZ
  next => exact h.elim
theorem zq_aaload {xs : Nat → Int} {L d : Nat} {sc : Bool} {m : Nat} {Q : zQ} {J : zJt} {C : zCt} {k : zKo} {il : List Instr} {bc bs : Nat} {ls : zLs} {st : List zV} {H : zH} (ih : zIH xs L d sc m Q k il) (h : zins J C sc xs L Q (.aaload) k bc bs ls st H) : zSN xs L d bc bs sc m (.aaload :: il) ls st H Q := by
  intro l p e R s M args below meth c G cA A b ρ Hm locs cells slots pc lsm Z hC hR hk hW h0 hst hls hc1 hc2 hZ
  obtain ⟨j, len, hd, hj, hx, ht⟩ := zchk_cons hk (by intro q; cases q) (by intro t q; cases q)
  obtain ⟨hX, hB, hL2, hret, hlk, hown, hts, hnk, hini, hK, hA, hsc⟩ := id hC
  simp only [zraw, List.mem_singleton, Prod.mk.injEq] at hj
  obtain ⟨rfl, rfl⟩ := hj
  have ht := ht.resolve_left (by simp [zte])
  simp only [zins] at h
  split at h
  next i a st =>
    obtain ⟨hi, hst⟩ := List.forall_mem_cons.mp hst
    obtain ⟨ha, hst⟩ := List.forall_mem_cons.mp hst
    obtain ⟨hkd, h1, h2, h⟩ := h
    have hal := ha a rfl
    have ha1 := zgo_lt hW.2.2.2 hal (by omega)
    have hN := zsz hW.2.2.2 ha1 hal (by omega)
    obtain ⟨hin, hcl⟩ := z_in h1 h2 hN
    have he := zw_at (cA := cA) (ρ := ρ) ha1 hal
    have hel := zel hW.2.2.2 ha1 hal (show i.toNat < zN H a by omega)
    rw [zce_ref hkd] at he
    rw [hkd] at hel
    refine va_aldq hX hB hK hW.1 (a - 1) 4 he rfl hin hd ?_
    rw [hcl]
    exact ih bc bs ls _ H h l p e R s M args below meth c G cA A b ρ Hm locs cells slots (pc + 1) lsm Z hC hR ht hW h0 (List.forall_mem_cons.mpr ⟨hel, hst⟩) hls hc1 hc2 hZ
  next => exact h.elim
theorem zq_iastore {xs : Nat → Int} {L d : Nat} {sc : Bool} {m : Nat} {Q : zQ} {J : zJt} {C : zCt} {k : zKo} {il : List Instr} {bc bs : Nat} {ls : zLs} {st : List zV} {H : zH} (ih : zIH xs L d sc m Q k il) (h : zins J C sc xs L Q (.iastore) k bc bs ls st H) : zSN xs L d bc bs sc m (.iastore :: il) ls st H Q := by
  intro l p e R s M args below meth c G cA A b ρ Hm locs cells slots pc lsm Z hC hR hk hW h0 hst hls hc1 hc2 hZ
  obtain ⟨j, len, hd, hj, hx, ht⟩ := zchk_cons hk (by intro q; cases q) (by intro t q; cases q)
  obtain ⟨hX, hB, hL2, hret, hlk, hown, hts, hnk, hini, hK, hA, hsc⟩ := id hC
  simp only [zraw, List.mem_singleton, Prod.mk.injEq] at hj
  obtain ⟨rfl, rfl⟩ := hj
  have ht := ht.resolve_left (by simp [zte])
  simp only [zins] at h
  split at h
  next x i a st =>
    obtain ⟨hx2, hst⟩ := List.forall_mem_cons.mp hst
    obtain ⟨hi, hst⟩ := List.forall_mem_cons.mp hst
    obtain ⟨ha, hst⟩ := List.forall_mem_cons.mp hst
    obtain ⟨hkd, h1, h2, h⟩ := h
    have hal := ha a rfl
    have ha1 := zgo_lt hW.2.2.2 hal (by omega)
    have hN := zsz hW.2.2.2 ha1 hal (by omega)
    obtain ⟨hin, hcl⟩ := z_in h1 h2 hN
    have he := zw_at (cA := cA) (ρ := ρ) ha1 hal
    have hel := zel hW.2.2.2 ha1 hal (show i.toNat < zN H a by omega)
    rw [zce_int hkd] at he
    have ew : zw cA ρ (zwA H a i.toNat x) = (zw cA ρ H).set (a - 1) (ρ a, .inl (cA 0, zN H a, .inl (upd (fun j => Int32.ofInt (zA H a j)) i.toNat (Int32.ofInt x)))) := by
      have ef : (fun j => Int32.ofInt (zA (zwA H a i.toNat x) a j)) = upd (fun j => Int32.ofInt (zA H a j)) i.toNat (Int32.ofInt x) := by
        funext j
        rw [zup, zA_wA, zif rfl]
      rw [zw_set (H := H) (H' := zwA H a i.toNat x) ha1 hal rfl (fun b hb => zce_wA hb), zce_int (show zK (zwA H a i.toNat x) a = 100 from hkd), ef, zN_wA]
    refine va_iast hX hB hK hW.1 hW.2.1 hW.2.2.1 (a - 1) 0 he rfl hin hd (fun H1 locs1 hP1 hD1 hS1 => ?_)
    rw [hcl, ← ew] at hP1 hD1
    exact ih bc bs ls _ _ h l p e R s M args below meth c G cA A b ρ H1 locs1 cells slots (pc + 1) lsm Z hC hR ht ⟨hP1, hD1, hS1, zgo_wA hW.2.2.2 (by rw [hkd]; exact hx2)⟩ h0 hst hls hc1 hc2 hZ
  next => exact h.elim
theorem zq_lastore {xs : Nat → Int} {L d : Nat} {sc : Bool} {m : Nat} {Q : zQ} {J : zJt} {C : zCt} {k : zKo} {il : List Instr} {bc bs : Nat} {ls : zLs} {st : List zV} {H : zH} (ih : zIH xs L d sc m Q k il) (h : zins J C sc xs L Q (.lastore) k bc bs ls st H) : zSN xs L d bc bs sc m (.lastore :: il) ls st H Q := by
  intro l p e R s M args below meth c G cA A b ρ Hm locs cells slots pc lsm Z hC hR hk hW h0 hst hls hc1 hc2 hZ
  obtain ⟨j, len, hd, hj, hx, ht⟩ := zchk_cons hk (by intro q; cases q) (by intro t q; cases q)
  obtain ⟨hX, hB, hL2, hret, hlk, hown, hts, hnk, hini, hK, hA, hsc⟩ := id hC
  simp only [zraw, List.mem_singleton, Prod.mk.injEq] at hj
  obtain ⟨rfl, rfl⟩ := hj
  have ht := ht.resolve_left (by simp [zte])
  simp only [zins] at h
  split at h
  next x i a st =>
    obtain ⟨hx2, hst⟩ := List.forall_mem_cons.mp hst
    obtain ⟨hi, hst⟩ := List.forall_mem_cons.mp hst
    obtain ⟨ha, hst⟩ := List.forall_mem_cons.mp hst
    obtain ⟨hkd, h1, h2, h⟩ := h
    have hal := ha a rfl
    have ha1 := zgo_lt hW.2.2.2 hal (by omega)
    have hN := zsz hW.2.2.2 ha1 hal (by omega)
    obtain ⟨hin, hcl⟩ := z_in h1 h2 hN
    have he := zw_at (cA := cA) (ρ := ρ) ha1 hal
    have hel := zel hW.2.2.2 ha1 hal (show i.toNat < zN H a by omega)
    rw [zce_long hkd] at he
    have ew : zw cA ρ (zwA H a i.toNat x) = (zw cA ρ H).set (a - 1) (ρ a, .inl (cA 3, zN H a, .inr (.inl (vp_updL (fun j => Int64.ofInt (zA H a j)) i.toNat (Int64.ofInt x))))) := by
      have ef : (fun j => Int64.ofInt (zA (zwA H a i.toNat x) a j)) = vp_updL (fun j => Int64.ofInt (zA H a j)) i.toNat (Int64.ofInt x) := by
        funext j
        rw [zupL, zA_wA, zif rfl]
      rw [zw_set (H := H) (H' := zwA H a i.toNat x) ha1 hal rfl (fun b hb => zce_wA hb), zce_long (show zK (zwA H a i.toNat x) a = 103 from hkd), ef, zN_wA]
    refine va_last hX hB hK hW.1 hW.2.1 hW.2.2.1 (a - 1) 3 he rfl hin hd (fun H1 locs1 hP1 hD1 hS1 => ?_)
    rw [hcl, ← ew] at hP1 hD1
    exact ih bc bs ls _ _ h l p e R s M args below meth c G cA A b ρ H1 locs1 cells slots (pc + 1) lsm Z hC hR ht ⟨hP1, hD1, hS1, zgo_wA hW.2.2.2 (by rw [hkd]; exact hx2)⟩ h0 hst hls hc1 hc2 hZ
  next => exact h.elim
theorem zq_bastore {xs : Nat → Int} {L d : Nat} {sc : Bool} {m : Nat} {Q : zQ} {J : zJt} {C : zCt} {k : zKo} {il : List Instr} {bc bs : Nat} {ls : zLs} {st : List zV} {H : zH} (ih : zIH xs L d sc m Q k il) (h : zins J C sc xs L Q (.bastore) k bc bs ls st H) : zSN xs L d bc bs sc m (.bastore :: il) ls st H Q := by
  intro l p e R s M args below meth c G cA A b ρ Hm locs cells slots pc lsm Z hC hR hk hW h0 hst hls hc1 hc2 hZ
  obtain ⟨j, len, hd, hj, hx, ht⟩ := zchk_cons hk (by intro q; cases q) (by intro t q; cases q)
  obtain ⟨hX, hB, hL2, hret, hlk, hown, hts, hnk, hini, hK, hA, hsc⟩ := id hC
  simp only [zraw, List.mem_singleton, Prod.mk.injEq] at hj
  obtain ⟨rfl, rfl⟩ := hj
  have ht := ht.resolve_left (by simp [zte])
  simp only [zins] at h
  split at h
  next x i a st =>
    obtain ⟨hx2, hst⟩ := List.forall_mem_cons.mp hst
    obtain ⟨hi, hst⟩ := List.forall_mem_cons.mp hst
    obtain ⟨ha, hst⟩ := List.forall_mem_cons.mp hst
    obtain ⟨hkd, h1, h2, h⟩ := h
    have hal := ha a rfl
    have ha1 := zgo_lt hW.2.2.2 hal (by omega)
    have hN := zsz hW.2.2.2 ha1 hal (by omega)
    obtain ⟨hin, hcl⟩ := z_in h1 h2 hN
    have he := zw_at (cA := cA) (ρ := ρ) ha1 hal
    have hel := zel hW.2.2.2 ha1 hal (show i.toNat < zN H a by omega)
    rcases hkd with ⟨hkd, hr1, hr2⟩ | ⟨hkd, hr1, hr2⟩
    · rw [zce_byte hkd] at he
      have ew : zw cA ρ (zwA H a i.toNat x) = (zw cA ρ H).set (a - 1) (ρ a, .inl (cA 1, zN H a, .inl (upd (fun j => Int32.ofInt (zA H a j)) i.toNat (Int32.ofInt x)))) := by
        have ef : (fun j => Int32.ofInt (zA (zwA H a i.toNat x) a j)) = upd (fun j => Int32.ofInt (zA H a j)) i.toNat (Int32.ofInt x) := by
          funext j
          rw [zup, zA_wA, zif rfl]
        rw [zw_set (H := H) (H' := zwA H a i.toNat x) ha1 hal rfl (fun b hb => zce_wA hb), zce_byte (show zK (zwA H a i.toNat x) a = 101 from hkd), ef, zN_wA]
      refine va_bast hX hB hK hW.1 hW.2.1 hW.2.2.1 (a - 1) 1 he rfl hin hd (fun H1 locs1 hP1 hD1 hS1 => ?_)
      rw [hcl, znar_b hr1 hr2, ← ew] at hP1 hD1
      exact ih bc bs ls _ _ h l p e R s M args below meth c G cA A b ρ H1 locs1 cells slots (pc + 1) lsm Z hC hR ht ⟨hP1, hD1, hS1, zgo_wA hW.2.2.2 (by rw [hkd]; exact ⟨hr1, hr2⟩)⟩ h0 hst hls hc1 hc2 hZ
    · rw [zce_bool hkd] at he
      have ew : zw cA ρ (zwA H a i.toNat x) = (zw cA ρ H).set (a - 1) (ρ a, .inl (cA 2, zN H a, .inl (upd (fun j => Int32.ofInt (zA H a j)) i.toNat (Int32.ofInt x)))) := by
        have ef : (fun j => Int32.ofInt (zA (zwA H a i.toNat x) a j)) = upd (fun j => Int32.ofInt (zA H a j)) i.toNat (Int32.ofInt x) := by
          funext j
          rw [zup, zA_wA, zif rfl]
        rw [zw_set (H := H) (H' := zwA H a i.toNat x) ha1 hal rfl (fun b hb => zce_wA hb), zce_bool (show zK (zwA H a i.toNat x) a = 102 from hkd), ef, zN_wA]
      refine va_zast hX hB hK hW.1 hW.2.1 hW.2.2.1 (a - 1) 2 he rfl hin hd (fun H1 locs1 hP1 hD1 hS1 => ?_)
      rw [hcl, znar_z hr1 hr2, ← ew] at hP1 hD1
      exact ih bc bs ls _ _ h l p e R s M args below meth c G cA A b ρ H1 locs1 cells slots (pc + 1) lsm Z hC hR ht ⟨hP1, hD1, hS1, zgo_wA hW.2.2.2 (by rw [hkd]; exact ⟨hr1, hr2⟩)⟩ h0 hst hls hc1 hc2 hZ
  next => exact h.elim
theorem zq_aastore {xs : Nat → Int} {L d : Nat} {sc : Bool} {m : Nat} {Q : zQ} {J : zJt} {C : zCt} {k : zKo} {il : List Instr} {bc bs : Nat} {ls : zLs} {st : List zV} {H : zH} (ih : zIH xs L d sc m Q k il) (h : zins J C sc xs L Q (.aastore) k bc bs ls st H) : zSN xs L d bc bs sc m (.aastore :: il) ls st H Q := by
  intro l p e R s M args below meth c G cA A b ρ Hm locs cells slots pc lsm Z hC hR hk hW h0 hst hls hc1 hc2 hZ
  obtain ⟨j, len, hd, hj, hx, ht⟩ := zchk_cons hk (by intro q; cases q) (by intro t q; cases q)
  obtain ⟨hX, hB, hL2, hret, hlk, hown, hts, hnk, hini, hK, hA, hsc⟩ := id hC
  simp only [zraw, List.mem_singleton, Prod.mk.injEq] at hj
  obtain ⟨rfl, rfl⟩ := hj
  have ht := ht.resolve_left (by simp [zte])
  simp only [zins] at h
  split at h
  next x i a st =>
    obtain ⟨hx2, hst⟩ := List.forall_mem_cons.mp hst
    obtain ⟨hi, hst⟩ := List.forall_mem_cons.mp hst
    obtain ⟨ha, hst⟩ := List.forall_mem_cons.mp hst
    obtain ⟨hkd, hkx, h1, h2, h⟩ := h
    have hal := ha a rfl
    have ha1 := zgo_lt hW.2.2.2 hal (by omega)
    have hN := zsz hW.2.2.2 ha1 hal (by omega)
    obtain ⟨hin, hcl⟩ := z_in h1 h2 hN
    have he := zw_at (cA := cA) (ρ := ρ) ha1 hal
    have hel := zel hW.2.2.2 ha1 hal (show i.toNat < zN H a by omega)
    rw [zce_ref hkd] at he
    have hxl := hx2 x rfl
    have hx1 := zgo_lt hW.2.2.2 hxl (by omega)
    have hex := zw_at (cA := cA) (ρ := ρ) hx1 hxl
    rw [zce_obj (by omega), hkx] at hex
    have ew : zw cA ρ (zwR H a i.toNat (some x)) = (zw cA ρ H).set (a - 1) (ρ a, .inl (cA 4, zN H a, .inr (.inr (.inr (.inr (va_up (fun j => (zR H a j).map ρ) i.toNat (some (ρ x)))))))) := by
      have ef : (fun j => (zR (zwR H a i.toNat (some x)) a j).map ρ) = va_up (fun j => (zR H a j).map ρ) i.toNat (some (ρ x)) := by
        funext j
        rw [zR_wR, zif rfl]
        unfold va_up
        split <;> rfl
      rw [zw_set (H := H) (H' := zwR H a i.toNat (some x)) ha1 hal rfl (fun b hb => zce_wR hb), zce_ref (show zK (zwR H a i.toNat (some x)) a = 104 from hkd), ef, zN_wR]
    refine va_astq (r := (RX5, TX5, 2)) hX hB hK hW.1 hW.2.1 hW.2.2.1 (a - 1) 4 (x - 1) 5 he rfl hex rfl hin hd (fun H1 locs1 hP1 hD1 hS1 => ?_)
    rw [hcl, ← ew] at hP1 hD1
    exact ih bc bs ls _ _ h l p e R s M args below meth c G cA A b ρ H1 locs1 cells slots (pc + 1) lsm Z hC hR ht ⟨hP1, hD1, hS1, zgo_wR hW.2.2.2 (fun _ => by omega) (by rw [hkd]; exact hx2)⟩ h0 hst hls hc1 hc2 hZ
  next => exact h.elim
theorem zq_alen {xs : Nat → Int} {L d : Nat} {sc : Bool} {m : Nat} {Q : zQ} {J : zJt} {C : zCt} {k : zKo} {il : List Instr} {bc bs : Nat} {ls : zLs} {st : List zV} {H : zH} (ih : zIH xs L d sc m Q k il) (h : zins J C sc xs L Q (.arraylength) k bc bs ls st H) : zSN xs L d bc bs sc m (.arraylength :: il) ls st H Q := by
  intro l p e R s M args below meth c G cA A b ρ Hm locs cells slots pc lsm Z hC hR hk hW h0 hst hls hc1 hc2 hZ
  obtain ⟨j, len, hd, hj, hx, ht⟩ := zchk_cons hk (by intro q; cases q) (by intro t q; cases q)
  obtain ⟨hX, hB, hL2, hret, hlk, hown, hts, hnk, hini, hK, hA, hsc⟩ := id hC
  simp only [zraw, List.mem_singleton, Prod.mk.injEq] at hj
  obtain ⟨rfl, rfl⟩ := hj
  have ht := ht.resolve_left (by simp [zte])
  simp only [zins] at h
  split at h
  next a st =>
    obtain ⟨ha, hst⟩ := List.forall_mem_cons.mp hst
    split at h
    next hs =>
      obtain ⟨hq1, hq2, hq3, hq4, hq5⟩ := hsc hs.1
      have e0 : ρ a = b := by rw [hs.2]; exact h0 hs.1
      have e1 : List.map (zv ρ) (Sum.inr (Sum.inr (some a)) :: st) = .ref b :: st.map (zv ρ) := by rw [← e0]; rfl
      rw [e1]
      refine va_slen hX hB hq1 hq2 hq3 hW.2.2.1 hd ?_
      exact ih bc bs ls _ H h l p e R s M args below meth c G cA A b ρ Hm locs cells slots (pc + 1) lsm Z hC hR ht hW h0 (List.forall_mem_cons.mpr ⟨(⟨by omega, by omega⟩ : z32 _), hst⟩) hls hc1 hc2 hZ
    next hs =>
      obtain ⟨⟨hk1, hk2⟩, h⟩ := h
      have hal := ha a rfl
      have ha1 := zgo_lt hW.2.2.2 hal (by omega)
      have hN := zsz hW.2.2.2 ha1 hal (by omega)
      have he := zw_at (cA := cA) (ρ := ρ) ha1 hal
      have hc : ∃ (t0 : Nat) (cc : ClassId) (xx : vp_A) (ty : FieldType), zce cA ρ H a = .inl (cc, xx) ∧ (zty cA)[t0]? = some (cc, ty) ∧ xx.1 = zN H a := by
        rcases (show zK H a = 100 ∨ zK H a = 101 ∨ zK H a = 102 ∨ zK H a = 103 by omega) with q | q | q | q
        · exact ⟨0, _, _, _, zce_int q, rfl, rfl⟩
        · exact ⟨1, _, _, _, zce_byte q, rfl, rfl⟩
        · exact ⟨2, _, _, _, zce_bool q, rfl, rfl⟩
        · exact ⟨3, _, _, _, zce_long q, rfl, rfl⟩
      obtain ⟨t0, c0, xx, ty, hc1', hc2', hc3'⟩ := hc
      rw [hc1'] at he
      refine va_alen (v := Int32.ofInt (zN H a)) hX hB hK hW.1 (a - 1) t0 he hc2' (by rw [hc3']; rfl) hd ?_
      exact ih bc bs ls _ H h l p e R s M args below meth c G cA A b ρ Hm locs cells slots (pc + 1) lsm Z hC hR ht hW h0 (List.forall_mem_cons.mpr ⟨(⟨by omega, by omega⟩ : z32 _), hst⟩) hls hc1 hc2 hZ
  next => exact h.elim
