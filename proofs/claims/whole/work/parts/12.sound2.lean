theorem zq_iconst {xs : Nat → Int} {L d : Nat} {sc : Bool} {m : Nat} {Q : zQ} {J : zJt} {C : zCt} {k : zKo} {il : List Instr} {bc bs : Nat} {ls : zLs} {st : List zV} {H : zH} {n : Int} (ih : zIH xs L d sc m Q k il) (h : zins J C sc xs L Q (.iconst n) k bc bs ls st H) : zSN xs L d bc bs sc m (.iconst n :: il) ls st H Q := by
  intro l p e R s M args below meth c G cA A b ρ Hm locs cells slots pc lsm Z hC hR hk hW h0 hst hls hc1 hc2 hZ
  obtain ⟨j, len, hd, hj, hx, ht⟩ := zchk_cons hk (by intro q; cases q) (by intro t q; cases q)
  obtain ⟨hX, hB, hL2, hret, hlk, hown, hts, hnk, hini, hK, hA, hsc⟩ := id hC
  have ht := ht.resolve_left (by simp [zte])
  simp only [zins] at h
  simp only [zext, decide_eq_true_eq] at hx
  have hn : z32 n := ⟨by omega, by omega⟩
  simp only [zraw, List.mem_cons, List.mem_append] at hj
  rcases hj with hj | hj | hj
  · cases hj
    refine lv_iconst (v := Int32.ofInt n) hX hB hd rfl ?_
    exact ih bc bs ls _ H h l p e R s M args below meth c G cA A b ρ Hm locs cells slots (pc + 1) lsm Z hC hR ht hW h0 (List.forall_mem_cons.mpr ⟨hn, hst⟩) hls hc1 hc2 hZ
  · by_cases hr : -128 ≤ n ∧ n ≤ 127
    · rw [if_pos hr] at hj
      cases List.mem_singleton.mp hj
      refine lv_bipush (v := Int32.ofInt n) hX hB hd ?_ ?_
      · apply Int32.toInt_inj.mp
        rw [z32_i hn, Int8.toInt_toInt32, Int8.toInt_ofInt_of_le (by omega) (by omega)]
      · exact ih bc bs ls _ H h l p e R s M args below meth c G cA A b ρ Hm locs cells slots (pc + 2) lsm Z hC hR ht hW h0 (List.forall_mem_cons.mpr ⟨hn, hst⟩) hls hc1 hc2 hZ
    · rw [if_neg hr] at hj
      exact absurd hj List.not_mem_nil
  · rw [if_pos hx] at hj
    cases List.mem_singleton.mp hj
    refine lv_sipush (v := Int32.ofInt n) hX hB hd ?_ ?_
    · apply Int32.toInt_inj.mp
      rw [z32_i hn, Int16.toInt_toInt32, Int16.toInt_ofInt_of_le (by omega) (by omega)]
    · exact ih bc bs ls _ H h l p e R s M args below meth c G cA A b ρ Hm locs cells slots (pc + 3) lsm Z hC hR ht hW h0 (List.forall_mem_cons.mpr ⟨hn, hst⟩) hls hc1 hc2 hZ
theorem zq_lconst {xs : Nat → Int} {L d : Nat} {sc : Bool} {m : Nat} {Q : zQ} {J : zJt} {C : zCt} {k : zKo} {il : List Instr} {bc bs : Nat} {ls : zLs} {st : List zV} {H : zH} {n : Int} (ih : zIH xs L d sc m Q k il) (h : zins J C sc xs L Q (.jsr_w n) k bc bs ls st H) : zSN xs L d bc bs sc m (.jsr_w n :: il) ls st H Q := by
  intro l p e R s M args below meth c G cA A b ρ Hm locs cells slots pc lsm Z hC hR hk hW h0 hst hls hc1 hc2 hZ
  obtain ⟨j, len, hd, hj, hx, ht⟩ := zchk_cons hk (by intro q; cases q) (by intro t q; cases q)
  obtain ⟨hX, hB, hL2, hret, hlk, hown, hts, hnk, hini, hK, hA, hsc⟩ := id hC
  have ht2 := ht.resolve_left (by simp [zte])
  clear ht
  simp only [zins] at h
  simp only [zraw] at hj
  by_cases h1 : n = 0
  · rw [if_pos h1] at hj
    cases List.mem_singleton.mp hj
    subst h1
    refine lv_lconst (v := Int64.ofInt 0) hX hB hd rfl ?_
    exact ih bc bs ls _ H h l p e R s M args below meth c G cA A b ρ Hm locs cells slots (pc + 1) lsm Z hC hR ht2 hW h0 (List.forall_mem_cons.mpr ⟨(z32_64 z32_0), hst⟩) hls hc1 hc2 hZ
  · rw [if_neg h1] at hj
    by_cases h2 : n = 1
    · rw [if_pos h2] at hj
      cases List.mem_singleton.mp hj
      subst h2
      refine lv_lconst (v := Int64.ofInt 1) hX hB hd rfl ?_
      exact ih bc bs ls _ H h l p e R s M args below meth c G cA A b ρ Hm locs cells slots (pc + 1) lsm Z hC hR ht2 hW h0 (List.forall_mem_cons.mpr ⟨(⟨by decide, by decide⟩ : z64 1), hst⟩) hls hc1 hc2 hZ
    · rw [if_neg h2] at hj
      exact absurd hj List.not_mem_nil
theorem zq_ldc {xs : Nat → Int} {L d : Nat} {sc : Bool} {m : Nat} {Q : zQ} {J : zJt} {C : zCt} {k : zKo} {il : List Instr} {bc bs : Nat} {ls : zLs} {st : List zV} {H : zH} {v : Int} {a : Array (Int × Int)} (ih : zIH xs L d sc m Q k il) (h : zins J C sc xs L Q (.lookupswitch v a) k bc bs ls st H) : zSN xs L d bc bs sc m (.lookupswitch v a :: il) ls st H Q := by
  intro l p e R s M args below meth c G cA A b ρ Hm locs cells slots pc lsm Z hC hR hk hW h0 hst hls hc1 hc2 hZ
  obtain ⟨j, len, hd, hj, hx, ht⟩ := zchk_cons hk (by intro q; cases q) (by intro t q; cases q)
  obtain ⟨hX, hB, hL2, hret, hlk, hown, hts, hnk, hini, hK, hA, hsc⟩ := id hC
  have ht := ht.resolve_left (by simp [zte])
  simp only [zins] at h
  simp only [zraw] at hj
  simp only [zext] at hx
  by_cases ha : a.size = 1
  · rw [if_pos ha] at h hj hx
    simp only [Bool.and_eq_true, decide_eq_true_eq] at hx
    have hcs := hts _ (zTm (List.mem_of_getElem? hx.2) rfl)
    rcases List.mem_cons.mp hj with hj | hj
    · cases hj
      refine lv_ldc hX hB hown hcs hd ?_
      exact ih bc bs ls _ H h l p e R s M args below meth c G cA A b ρ Hm locs cells slots (pc + 2) lsm Z hC hR ht hW h0 (List.forall_mem_cons.mpr ⟨hx.1, hst⟩) hls hc1 hc2 hZ
    · cases List.mem_singleton.mp hj
      refine lv_ldcw hX hB hown hcs hd ?_
      exact ih bc bs ls _ H h l p e R s M args below meth c G cA A b ρ Hm locs cells slots (pc + 3) lsm Z hC hR ht hW h0 (List.forall_mem_cons.mpr ⟨hx.1, hst⟩) hls hc1 hc2 hZ
  · rw [if_neg ha] at h hj hx
    simp only [Bool.and_eq_true, decide_eq_true_eq] at hx
    have hcs := hts _ (zTm (List.mem_of_getElem? hx.2) rfl)
    cases List.mem_singleton.mp hj
    refine lv_ldc2 hX hB hown hcs hd ?_
    exact ih bc bs ls _ H h l p e R s M args below meth c G cA A b ρ Hm locs cells slots (pc + 3) lsm Z hC hR ht hW h0 (List.forall_mem_cons.mpr ⟨hx.1, hst⟩) hls hc1 hc2 hZ
theorem zq_null {xs : Nat → Int} {L d : Nat} {sc : Bool} {m : Nat} {Q : zQ} {J : zJt} {C : zCt} {k : zKo} {il : List Instr} {bc bs : Nat} {ls : zLs} {st : List zV} {H : zH} (ih : zIH xs L d sc m Q k il) (h : zins J C sc xs L Q (.aconst_null) k bc bs ls st H) : zSN xs L d bc bs sc m (.aconst_null :: il) ls st H Q := by
  intro l p e R s M args below meth c G cA A b ρ Hm locs cells slots pc lsm Z hC hR hk hW h0 hst hls hc1 hc2 hZ
  obtain ⟨j, len, hd, hj, hx, ht⟩ := zchk_cons hk (by intro q; cases q) (by intro t q; cases q)
  obtain ⟨hX, hB, hL2, hret, hlk, hown, hts, hnk, hini, hK, hA, hsc⟩ := id hC
  simp only [zraw, List.mem_singleton, Prod.mk.injEq] at hj
  obtain ⟨rfl, rfl⟩ := hj
  have ht := ht.resolve_left (by simp [zte])
  simp only [zins] at h
  refine lv_null hX hB hd ?_
  exact ih bc bs ls _ H h l p e R s M args below meth c G cA A b ρ Hm locs cells slots (pc + 1) lsm Z hC hR ht hW h0 (List.forall_mem_cons.mpr ⟨(fun a ha => by cases ha), hst⟩) hls hc1 hc2 hZ
theorem zq_iload {xs : Nat → Int} {L d : Nat} {sc : Bool} {m : Nat} {Q : zQ} {J : zJt} {C : zCt} {k : zKo} {il : List Instr} {bc bs : Nat} {ls : zLs} {st : List zV} {H : zH} {n : Nat} (ih : zIH xs L d sc m Q k il) (h : zins J C sc xs L Q (.iload n) k bc bs ls st H) : zSN xs L d bc bs sc m (.iload n :: il) ls st H Q := by
  intro l p e R s M args below meth c G cA A b ρ Hm locs cells slots pc lsm Z hC hR hk hW h0 hst hls hc1 hc2 hZ
  obtain ⟨j, len, hd, hj, hx, ht⟩ := zchk_cons hk (by intro q; cases q) (by intro t q; cases q)
  obtain ⟨hX, hB, hL2, hret, hlk, hown, hts, hnk, hini, hK, hA, hsc⟩ := id hC
  have ht := ht.resolve_left (by simp [zte])
  simp only [zins] at h
  simp only [zraw, zf4, List.mem_cons] at hj
  split at h
  next x hg =>
    obtain ⟨hg1, hg2⟩ := hls.get hg
    rcases hj with hj | hj
    · cases hj
      refine lv_iload hX hB hd hg1 ?_
      exact ih bc bs ls _ H h l p e R s M args below meth c G cA A b ρ Hm locs cells slots (pc + 2) lsm Z hC hR ht hW h0 (List.forall_mem_cons.mpr ⟨hg2, hst⟩) hls hc1 hc2 hZ
    · split at hj
      next hf =>
        cases List.mem_singleton.mp hj
        refine lv_iload_n hX hB hd rfl hg1 ?_
        exact ih bc bs ls _ H h l p e R s M args below meth c G cA A b ρ Hm locs cells slots (pc + 1) lsm Z hC hR ht hW h0 (List.forall_mem_cons.mpr ⟨hg2, hst⟩) hls hc1 hc2 hZ
      next => exact absurd hj List.not_mem_nil
  next => exact h.elim
theorem zq_lload {xs : Nat → Int} {L d : Nat} {sc : Bool} {m : Nat} {Q : zQ} {J : zJt} {C : zCt} {k : zKo} {il : List Instr} {bc bs : Nat} {ls : zLs} {st : List zV} {H : zH} {n : Nat} (ih : zIH xs L d sc m Q k il) (h : zins J C sc xs L Q (.lload n) k bc bs ls st H) : zSN xs L d bc bs sc m (.lload n :: il) ls st H Q := by
  intro l p e R s M args below meth c G cA A b ρ Hm locs cells slots pc lsm Z hC hR hk hW h0 hst hls hc1 hc2 hZ
  obtain ⟨j, len, hd, hj, hx, ht⟩ := zchk_cons hk (by intro q; cases q) (by intro t q; cases q)
  obtain ⟨hX, hB, hL2, hret, hlk, hown, hts, hnk, hini, hK, hA, hsc⟩ := id hC
  have ht := ht.resolve_left (by simp [zte])
  simp only [zins] at h
  simp only [zraw, zf4, List.mem_cons] at hj
  split at h
  next x hg =>
    obtain ⟨hg1, hg2⟩ := hls.get hg
    rcases hj with hj | hj
    · cases hj
      refine lv_lload hX hB hd hg1 ?_
      exact ih bc bs ls _ H h l p e R s M args below meth c G cA A b ρ Hm locs cells slots (pc + 2) lsm Z hC hR ht hW h0 (List.forall_mem_cons.mpr ⟨hg2, hst⟩) hls hc1 hc2 hZ
    · split at hj
      next hf =>
        cases List.mem_singleton.mp hj
        refine lv_lload_n hX hB hd rfl hg1 ?_
        exact ih bc bs ls _ H h l p e R s M args below meth c G cA A b ρ Hm locs cells slots (pc + 1) lsm Z hC hR ht hW h0 (List.forall_mem_cons.mpr ⟨hg2, hst⟩) hls hc1 hc2 hZ
      next => exact absurd hj List.not_mem_nil
  next => exact h.elim
theorem zq_aload {xs : Nat → Int} {L d : Nat} {sc : Bool} {m : Nat} {Q : zQ} {J : zJt} {C : zCt} {k : zKo} {il : List Instr} {bc bs : Nat} {ls : zLs} {st : List zV} {H : zH} {n : Nat} (ih : zIH xs L d sc m Q k il) (h : zins J C sc xs L Q (.aload n) k bc bs ls st H) : zSN xs L d bc bs sc m (.aload n :: il) ls st H Q := by
  intro l p e R s M args below meth c G cA A b ρ Hm locs cells slots pc lsm Z hC hR hk hW h0 hst hls hc1 hc2 hZ
  obtain ⟨j, len, hd, hj, hx, ht⟩ := zchk_cons hk (by intro q; cases q) (by intro t q; cases q)
  obtain ⟨hX, hB, hL2, hret, hlk, hown, hts, hnk, hini, hK, hA, hsc⟩ := id hC
  have ht := ht.resolve_left (by simp [zte])
  simp only [zins] at h
  simp only [zraw, zf4, List.mem_cons] at hj
  split at h
  next x hg =>
    obtain ⟨hg1, hg2⟩ := hls.get hg
    rcases hj with hj | hj
    · cases hj
      refine lv_aload hX hB hd hg1 ?_
      exact ih bc bs ls _ H h l p e R s M args below meth c G cA A b ρ Hm locs cells slots (pc + 2) lsm Z hC hR ht hW h0 (List.forall_mem_cons.mpr ⟨hg2, hst⟩) hls hc1 hc2 hZ
    · split at hj
      next hf =>
        cases List.mem_singleton.mp hj
        refine lv_aload_n hX hB hd rfl hg1 ?_
        exact ih bc bs ls _ H h l p e R s M args below meth c G cA A b ρ Hm locs cells slots (pc + 1) lsm Z hC hR ht hW h0 (List.forall_mem_cons.mpr ⟨hg2, hst⟩) hls hc1 hc2 hZ
      next => exact absurd hj List.not_mem_nil
  next => exact h.elim
theorem zq_istore {xs : Nat → Int} {L d : Nat} {sc : Bool} {m : Nat} {Q : zQ} {J : zJt} {C : zCt} {k : zKo} {il : List Instr} {bc bs : Nat} {ls : zLs} {st : List zV} {H : zH} {n : Nat} (ih : zIH xs L d sc m Q k il) (h : zins J C sc xs L Q (.istore n) k bc bs ls st H) : zSN xs L d bc bs sc m (.istore n :: il) ls st H Q := by
  intro l p e R s M args below meth c G cA A b ρ Hm locs cells slots pc lsm Z hC hR hk hW h0 hst hls hc1 hc2 hZ
  obtain ⟨j, len, hd, hj, hx, ht⟩ := zchk_cons hk (by intro q; cases q) (by intro t q; cases q)
  obtain ⟨hX, hB, hL2, hret, hlk, hown, hts, hnk, hini, hK, hA, hsc⟩ := id hC
  have ht := ht.resolve_left (by simp [zte])
  simp only [zins] at h
  simp only [zraw, zf4, List.mem_cons] at hj
  split at h
  next x st =>
    obtain ⟨hx2, hst⟩ := List.forall_mem_cons.mp hst
    obtain ⟨hn, h⟩ := h
    rw [hls.1] at hn
    rcases hj with hj | hj
    · cases hj
      refine lv_istore hX hB hd hls.has hn rfl (fun lsm' hl' => ?_)
      exact ih bc bs _ _ H h l p e R s M args below meth c G cA A b ρ Hm locs cells slots (pc + 2) lsm' Z hC hR ht hW h0 hst (hls.store1 hx2 hl') hc1 hc2 hZ
    · split at hj
      next hf =>
        cases List.mem_singleton.mp hj
        refine lv_istore_n hX hB hd rfl hls.has hn rfl (fun lsm' hl' => ?_)
        exact ih bc bs _ _ H h l p e R s M args below meth c G cA A b ρ Hm locs cells slots (pc + 1) lsm' Z hC hR ht hW h0 hst (hls.store1 hx2 hl') hc1 hc2 hZ
      next => exact absurd hj List.not_mem_nil
  next => exact h.elim
theorem zq_astore {xs : Nat → Int} {L d : Nat} {sc : Bool} {m : Nat} {Q : zQ} {J : zJt} {C : zCt} {k : zKo} {il : List Instr} {bc bs : Nat} {ls : zLs} {st : List zV} {H : zH} {n : Nat} (ih : zIH xs L d sc m Q k il) (h : zins J C sc xs L Q (.astore n) k bc bs ls st H) : zSN xs L d bc bs sc m (.astore n :: il) ls st H Q := by
  intro l p e R s M args below meth c G cA A b ρ Hm locs cells slots pc lsm Z hC hR hk hW h0 hst hls hc1 hc2 hZ
  obtain ⟨j, len, hd, hj, hx, ht⟩ := zchk_cons hk (by intro q; cases q) (by intro t q; cases q)
  obtain ⟨hX, hB, hL2, hret, hlk, hown, hts, hnk, hini, hK, hA, hsc⟩ := id hC
  have ht := ht.resolve_left (by simp [zte])
  simp only [zins] at h
  simp only [zraw, zf4, List.mem_cons] at hj
  split at h
  next x st =>
    obtain ⟨hx2, hst⟩ := List.forall_mem_cons.mp hst
    obtain ⟨hn, h⟩ := h
    rw [hls.1] at hn
    rcases hj with hj | hj
    · cases hj
      refine lv_astore hX hB hd hls.has hn rfl (fun lsm' hl' => ?_)
      exact ih bc bs _ _ H h l p e R s M args below meth c G cA A b ρ Hm locs cells slots (pc + 2) lsm' Z hC hR ht hW h0 hst (hls.store1 hx2 hl') hc1 hc2 hZ
    · split at hj
      next hf =>
        cases List.mem_singleton.mp hj
        refine lv_astore_n hX hB hd rfl hls.has hn rfl (fun lsm' hl' => ?_)
        exact ih bc bs _ _ H h l p e R s M args below meth c G cA A b ρ Hm locs cells slots (pc + 1) lsm' Z hC hR ht hW h0 hst (hls.store1 hx2 hl') hc1 hc2 hZ
      next => exact absurd hj List.not_mem_nil
  next => exact h.elim
theorem zq_lstore {xs : Nat → Int} {L d : Nat} {sc : Bool} {m : Nat} {Q : zQ} {J : zJt} {C : zCt} {k : zKo} {il : List Instr} {bc bs : Nat} {ls : zLs} {st : List zV} {H : zH} {n : Nat} (ih : zIH xs L d sc m Q k il) (h : zins J C sc xs L Q (.lstore n) k bc bs ls st H) : zSN xs L d bc bs sc m (.lstore n :: il) ls st H Q := by
  intro l p e R s M args below meth c G cA A b ρ Hm locs cells slots pc lsm Z hC hR hk hW h0 hst hls hc1 hc2 hZ
  obtain ⟨j, len, hd, hj, hx, ht⟩ := zchk_cons hk (by intro q; cases q) (by intro t q; cases q)
  obtain ⟨hX, hB, hL2, hret, hlk, hown, hts, hnk, hini, hK, hA, hsc⟩ := id hC
  have ht := ht.resolve_left (by simp [zte])
  simp only [zins] at h
  simp only [zraw, zf4, List.mem_cons] at hj
  split at h
  next x st =>
    obtain ⟨hx2, hst⟩ := List.forall_mem_cons.mp hst
    obtain ⟨hn, h⟩ := h
    rw [hls.1] at hn
    rcases hj with hj | hj
    · cases hj
      refine lv_lstore hX hB hd hls.has hn rfl (fun lsm' hl' => ?_)
      exact ih bc bs _ _ H h l p e R s M args below meth c G cA A b ρ Hm locs cells slots (pc + 2) lsm' Z hC hR ht hW h0 hst (hls.store2 hx2 hl') hc1 hc2 hZ
    · split at hj
      next hf =>
        cases List.mem_singleton.mp hj
        refine lv_lstore_n hX hB hd rfl hls.has hn rfl (fun lsm' hl' => ?_)
        exact ih bc bs _ _ H h l p e R s M args below meth c G cA A b ρ Hm locs cells slots (pc + 1) lsm' Z hC hR ht hW h0 hst (hls.store2 hx2 hl') hc1 hc2 hZ
      next => exact absurd hj List.not_mem_nil
  next => exact h.elim
theorem zlv_at {ρ : Nat → Nat} {ls : zLs} {i : Nat} {v : zV} (h : zgt ls i = some v) : ∃ k : Nat, (zlv ρ ls)[k]? = some (i, zv ρ v) := List.getElem?_of_mem (zlv_mem (zgt_spec h))
theorem zq_iinc {xs : Nat → Int} {L d : Nat} {sc : Bool} {m : Nat} {Q : zQ} {J : zJt} {C : zCt} {k : zKo} {il : List Instr} {bc bs : Nat} {ls : zLs} {st : List zV} {H : zH} {n : Nat} {dd : Int} (ih : zIH xs L d sc m Q k il) (h : zins J C sc xs L Q (.iinc n dd) k bc bs ls st H) : zSN xs L d bc bs sc m (.iinc n dd :: il) ls st H Q := by
  intro l p e R s M args below meth c G cA A b ρ Hm locs cells slots pc lsm Z hC hR hk hW h0 hst hls hc1 hc2 hZ
  obtain ⟨j, len, hd, hj, hx, ht⟩ := zchk_cons hk (by intro q; cases q) (by intro t q; cases q)
  obtain ⟨hX, hB, hL2, hret, hlk, hown, hts, hnk, hini, hK, hA, hsc⟩ := id hC
  simp only [zraw, List.mem_singleton, Prod.mk.injEq] at hj
  obtain ⟨rfl, rfl⟩ := hj
  have ht := ht.resolve_left (by simp [zte])
  simp only [zins] at h
  split at h
  next x hg =>
    obtain ⟨hn, hg32, h⟩ := h
    rw [hls.1] at hn
    obtain ⟨kq, hkq⟩ := zlv_at (ρ := ρ) hg
    refine lv_iinc (v := Int32.ofInt (x + dd)) hX hB hd hls.has hkq (zof_add _ _).symm hn rfl (fun lsm' hl' => ?_)
    exact ih bc bs _ _ H h l p e R s M args below meth c G cA A b ρ Hm locs cells slots (pc + 3) lsm' Z hC hR ht hW h0 hst (hls.store1 (v := zi (x + dd)) hg32 hl') hc1 hc2 hZ
  next => exact h.elim
theorem zq_dup {xs : Nat → Int} {L d : Nat} {sc : Bool} {m : Nat} {Q : zQ} {J : zJt} {C : zCt} {k : zKo} {il : List Instr} {bc bs : Nat} {ls : zLs} {st : List zV} {H : zH} (ih : zIH xs L d sc m Q k il) (h : zins J C sc xs L Q (.dup) k bc bs ls st H) : zSN xs L d bc bs sc m (.dup :: il) ls st H Q := by
  intro l p e R s M args below meth c G cA A b ρ Hm locs cells slots pc lsm Z hC hR hk hW h0 hst hls hc1 hc2 hZ
  obtain ⟨j, len, hd, hj, hx, ht⟩ := zchk_cons hk (by intro q; cases q) (by intro t q; cases q)
  obtain ⟨hX, hB, hL2, hret, hlk, hown, hts, hnk, hini, hK, hA, hsc⟩ := id hC
  simp only [zraw, List.mem_singleton, Prod.mk.injEq] at hj
  obtain ⟨rfl, rfl⟩ := hj
  have ht := ht.resolve_left (by simp [zte])
  simp only [zins] at h
  split at h
  next x st =>
    obtain ⟨hx2, hst⟩ := List.forall_mem_cons.mp hst
    refine lv_dup hX hB hd rfl ?_
    exact ih bc bs ls _ H h l p e R s M args below meth c G cA A b ρ Hm locs cells slots (pc + 1) lsm Z hC hR ht hW h0 (List.forall_mem_cons.mpr ⟨hx2, List.forall_mem_cons.mpr ⟨hx2, hst⟩⟩) hls hc1 hc2 hZ
  next r st =>
    obtain ⟨hx2, hst⟩ := List.forall_mem_cons.mp hst
    refine lv_dup hX hB hd zcat3 ?_
    exact ih bc bs ls _ H h l p e R s M args below meth c G cA A b ρ Hm locs cells slots (pc + 1) lsm Z hC hR ht hW h0 (List.forall_mem_cons.mpr ⟨hx2, List.forall_mem_cons.mpr ⟨hx2, hst⟩⟩) hls hc1 hc2 hZ
  next => exact h.elim
theorem zq_dup2 {xs : Nat → Int} {L d : Nat} {sc : Bool} {m : Nat} {Q : zQ} {J : zJt} {C : zCt} {k : zKo} {il : List Instr} {bc bs : Nat} {ls : zLs} {st : List zV} {H : zH} (ih : zIH xs L d sc m Q k il) (h : zins J C sc xs L Q (.dup2) k bc bs ls st H) : zSN xs L d bc bs sc m (.dup2 :: il) ls st H Q := by
  intro l p e R s M args below meth c G cA A b ρ Hm locs cells slots pc lsm Z hC hR hk hW h0 hst hls hc1 hc2 hZ
  obtain ⟨j, len, hd, hj, hx, ht⟩ := zchk_cons hk (by intro q; cases q) (by intro t q; cases q)
  obtain ⟨hX, hB, hL2, hret, hlk, hown, hts, hnk, hini, hK, hA, hsc⟩ := id hC
  simp only [zraw, List.mem_singleton, Prod.mk.injEq] at hj
  obtain ⟨rfl, rfl⟩ := hj
  have ht := ht.resolve_left (by simp [zte])
  simp only [zins] at h
  split at h
  next x st =>
    obtain ⟨hx2, hst⟩ := List.forall_mem_cons.mp hst
    refine lv_dup2_2 hX hB hd rfl ?_
    exact ih bc bs ls _ H h l p e R s M args below meth c G cA A b ρ Hm locs cells slots (pc + 1) lsm Z hC hR ht hW h0 (List.forall_mem_cons.mpr ⟨hx2, List.forall_mem_cons.mpr ⟨hx2, hst⟩⟩) hls hc1 hc2 hZ
  next y r st =>
    obtain ⟨hy, hst⟩ := List.forall_mem_cons.mp hst
    obtain ⟨hx2, hst⟩ := List.forall_mem_cons.mp hst
    refine lv_dup2_11 hX hB hd rfl zcat3 ?_
    exact ih bc bs ls _ H h l p e R s M args below meth c G cA A b ρ Hm locs cells slots (pc + 1) lsm Z hC hR ht hW h0 (List.forall_mem_cons.mpr ⟨hy, List.forall_mem_cons.mpr ⟨hx2, List.forall_mem_cons.mpr ⟨hy, List.forall_mem_cons.mpr ⟨hx2, hst⟩⟩⟩⟩) hls hc1 hc2 hZ
  next => exact h.elim
theorem zq_pop {xs : Nat → Int} {L d : Nat} {sc : Bool} {m : Nat} {Q : zQ} {J : zJt} {C : zCt} {k : zKo} {il : List Instr} {bc bs : Nat} {ls : zLs} {st : List zV} {H : zH} (ih : zIH xs L d sc m Q k il) (h : zins J C sc xs L Q (.pop) k bc bs ls st H) : zSN xs L d bc bs sc m (.pop :: il) ls st H Q := by
  intro l p e R s M args below meth c G cA A b ρ Hm locs cells slots pc lsm Z hC hR hk hW h0 hst hls hc1 hc2 hZ
  obtain ⟨j, len, hd, hj, hx, ht⟩ := zchk_cons hk (by intro q; cases q) (by intro t q; cases q)
  obtain ⟨hX, hB, hL2, hret, hlk, hown, hts, hnk, hini, hK, hA, hsc⟩ := id hC
  simp only [zraw, List.mem_singleton, Prod.mk.injEq] at hj
  obtain ⟨rfl, rfl⟩ := hj
  have ht := ht.resolve_left (by simp [zte])
  simp only [zins] at h
  split at h
  next x st =>
    obtain ⟨hx2, hst⟩ := List.forall_mem_cons.mp hst
    refine lv_pop hX hB hd rfl ?_
    exact ih bc bs ls _ H h l p e R s M args below meth c G cA A b ρ Hm locs cells slots (pc + 1) lsm Z hC hR ht hW h0 hst hls hc1 hc2 hZ
  next => exact h.elim
theorem zq_lcmp {xs : Nat → Int} {L d : Nat} {sc : Bool} {m : Nat} {Q : zQ} {J : zJt} {C : zCt} {k : zKo} {il : List Instr} {bc bs : Nat} {ls : zLs} {st : List zV} {H : zH} (ih : zIH xs L d sc m Q k il) (h : zins J C sc xs L Q (.lcmp) k bc bs ls st H) : zSN xs L d bc bs sc m (.lcmp :: il) ls st H Q := by
  intro l p e R s M args below meth c G cA A b ρ Hm locs cells slots pc lsm Z hC hR hk hW h0 hst hls hc1 hc2 hZ
  obtain ⟨j, len, hd, hj, hx, ht⟩ := zchk_cons hk (by intro q; cases q) (by intro t q; cases q)
  obtain ⟨hX, hB, hL2, hret, hlk, hown, hts, hnk, hini, hK, hA, hsc⟩ := id hC
  simp only [zraw, List.mem_singleton, Prod.mk.injEq] at hj
  obtain ⟨rfl, rfl⟩ := hj
  have ht := ht.resolve_left (by simp [zte])
  simp only [zins] at h
  split at h
  next y x st =>
    obtain ⟨hy, hst⟩ := List.forall_mem_cons.mp hst
    obtain ⟨hx2, hst⟩ := List.forall_mem_cons.mp hst
    have hz : z32 (zlcm x y) := by unfold zlcm z32; split <;> first | omega | (split <;> omega)
    have hv : lg_cmp (Int64.ofInt x) (Int64.ofInt y) = Int32.ofInt (zlcm x y) := by
      unfold zlcm lg_cmp
      simp only [gt_iff_lt, z64_lt hy hx2, z64_inj hx2 hy]
      by_cases h1 : x < y
      · rw [if_pos h1, if_neg (by omega), if_neg (by omega)]
        rfl
      · rw [if_neg h1]
        by_cases h2 : x = y
        · rw [if_pos h2, if_neg (by omega), if_pos h2]
          rfl
        · simp only [if_neg h2, if_pos (show y < x by omega)]
          rfl
    refine W.lcmp hX hB hd ?_
    rw [hv]
    exact ih bc bs ls _ H h l p e R s M args below meth c G cA A b ρ Hm locs cells slots (pc + 1) lsm Z hC hR ht hW h0 (List.forall_mem_cons.mpr ⟨hz, hst⟩) hls hc1 hc2 hZ
  next => exact h.elim
