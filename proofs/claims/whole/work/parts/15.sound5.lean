theorem zgl {C : String} {T : u_T} {N : Nat} : ∀ w ∈ u_ws C T N, goodWord w = true := by
  intro w hw
  obtain ⟨k, -, rfl⟩ := List.mem_map.mp hw
  unfold u_lay
  split <;> rfl
theorem zcl_in : ∀ q ∈ zcl, ∀ w ∈ u_ws q.1 q.2.1 q.2.2, w ∈ zTb := by
  intro q hq
  simp only [zcl, List.mem_cons, List.not_mem_nil, or_false] at hq
  rcases hq with rfl | rfl | rfl | rfl | rfl | rfl | rfl | rfl | rfl | rfl | rfl | rfl | rfl
  · exact fun w hw => zTm (inz0 w hw) (zgl w hw)
  · exact fun w hw => zTm (inz1 w hw) (zgl w hw)
  · exact fun w hw => zTm (inz2 w hw) (zgl w hw)
  · exact fun w hw => zTm (inz3 w hw) (zgl w hw)
  · exact fun w hw => zTm (inz4 w hw) (zgl w hw)
  · exact fun w hw => zTm (inz5 w hw) (zgl w hw)
  · exact fun w hw => zTm (inz6 w hw) (zgl w hw)
  · exact fun w hw => zTm (inz7 w hw) (zgl w hw)
  · exact fun w hw => zTm (inz8 w hw) (zgl w hw)
  · exact fun w hw => zTm (inz9 w hw) (zgl w hw)
  · exact fun w hw => zTm (inz10 w hw) (zgl w hw)
  · exact fun w hw => zTm (inz11 w hw) (zgl w hw)
  · exact fun w hw => zTm (inz12 w hw) (zgl w hw)
theorem zcl_nm : ∀ q ∈ zcl, ∀ a, a < q.2.2 → ∀ b, b < q.2.2 → a ≠ b → (q.2.1 a).2.1 ≠ (q.2.1 b).2.1 := by
  intro q hq
  simp only [zcl, List.mem_cons, List.not_mem_nil, or_false] at hq
  rcases hq with rfl | rfl | rfl | rfl | rfl | rfl | rfl | rfl | rfl | rfl | rfl | rfl | rfl
  · exact nmX0
  · exact nmX1
  · exact nmX2
  · exact nmX3
  · exact nmX4
  · exact nmX5
  · exact nmX6
  · exact nmX7
  · exact nmX8
  · exact nmX9
  · exact nmX10
  · exact nmX11
  · exact nmX12
theorem zcl_ty : ∀ q ∈ zcl, ∃ ty : Nat → FieldType, ∀ k, k < q.2.2 → parseFieldDescriptor (q.2.1 k).2.2.1 = some (ty k) := by
  intro q hq
  simp only [zcl, List.mem_cons, List.not_mem_nil, or_false] at hq
  rcases hq with rfl | rfl | rfl | rfl | rfl | rfl | rfl | rfl | rfl | rfl | rfl | rfl | rfl
  · exact ⟨_, tyX0_ok⟩
  · exact ⟨_, tyX1_ok⟩
  · exact ⟨_, tyX2_ok⟩
  · exact ⟨_, tyX3_ok⟩
  · exact ⟨_, tyX4_ok⟩
  · exact ⟨_, tyX5_ok⟩
  · exact ⟨_, tyX6_ok⟩
  · exact ⟨_, tyX7_ok⟩
  · exact ⟨_, tyX8_ok⟩
  · exact ⟨_, tyX9_ok⟩
  · exact ⟨_, tyX10_ok⟩
  · exact ⟨_, tyX11_ok⟩
  · exact ⟨_, tyX12_ok⟩
def zfs (q : vw_C) (ci k : Nat) : Bool := match zft ci k, parseFieldDescriptor (q.2.1 k).2.2.1 with
  | 0, some .int => true
  | 1, some .long => true
  | 3, some .boolean => true
  | 2, some (.object _) => true
  | 2, some (.array _) => true
  | _, _ => false
theorem zfs_b : (List.range 13).all (fun ci => match zcl[ci]? with
    | some q => (List.range q.2.2).all (zfs q ci)
    | none => false) = true := by decide +kernel
theorem zfs_all {ci k : Nat} {q : vw_C} (hq : zcl[ci]? = some q) (hk : k < q.2.2) : zfs q ci k = true := by
  have hc : ci < 13 := (List.getElem?_eq_some_iff.mp hq).1
  have h := List.all_eq_true.mp zfs_b ci (List.mem_range.mpr hc)
  rw [hq] at h
  exact List.all_eq_true.mp h k (List.mem_range.mpr hk)
theorem zfs_0 {ci k : Nat} {q : vw_C} (hq : zcl[ci]? = some q) (hk : k < q.2.2) (h : zft ci k = 0) : parseFieldDescriptor (q.2.1 k).2.2.1 = some .int := by
  have h1 := zfs_all hq hk
  unfold zfs at h1
  rw [h] at h1
  split at h1 <;> first | assumption | (exfalso; omega) | cases h1
theorem zfs_1 {ci k : Nat} {q : vw_C} (hq : zcl[ci]? = some q) (hk : k < q.2.2) (h : zft ci k = 1) : parseFieldDescriptor (q.2.1 k).2.2.1 = some .long := by
  have h1 := zfs_all hq hk
  unfold zfs at h1
  rw [h] at h1
  split at h1 <;> first | assumption | (exfalso; omega) | cases h1
theorem zfs_3 {ci k : Nat} {q : vw_C} (hq : zcl[ci]? = some q) (hk : k < q.2.2) (h : zft ci k = 3) : parseFieldDescriptor (q.2.1 k).2.2.1 = some .boolean := by
  have h1 := zfs_all hq hk
  unfold zfs at h1
  rw [h] at h1
  split at h1 <;> first | assumption | (exfalso; omega) | cases h1
theorem zfs_2 {ci k : Nat} {q : vw_C} (hq : zcl[ci]? = some q) (hk : k < q.2.2) (h : zft ci k = 2) : ∃ ty, parseFieldDescriptor (q.2.1 k).2.2.1 = some ty ∧ (∀ r : Option Nat, narrow ty (va_rf r) = va_rf r ∧ fits ty (va_rf r) = true) ∧ defaultValue ty = .null := by
  have h1 := zfs_all hq hk
  unfold zfs at h1
  rw [h] at h1
  split at h1
  · exfalso; omega
  · exfalso; omega
  · exfalso; omega
  · next e => exact ⟨_, e, fun r => by cases r <;> exact ⟨rfl, rfl⟩, rfl⟩
  · next e => exact ⟨_, e, fun r => by cases r <;> exact ⟨rfl, rfl⟩, rfl⟩
  · cases h1
theorem zft_lt {ci k : Nat} {q : vw_C} (hq : zcl[ci]? = some q) (hk : k < q.2.2) : zft ci k = 0 ∨ zft ci k = 1 ∨ zft ci k = 2 ∨ zft ci k = 3 := by
  have h1 := zfs_all hq hk
  unfold zfs at h1
  split at h1 <;> first | omega | cases h1
theorem zfw_spec {m n : Nat} {t : Nat → Bool → Bool} (h : zfw m n t = true) : ∃ C T N, zcl[n / 128 % 16]? = some (C, T, N) ∧ n % 128 < N ∧ Cond.fieldLink (zon m) (n / 2048 % 512) (T (n % 128)).1 (T (n % 128)).2.1 (T (n % 128)).2.2.1 ∈ lw_tbl ∧ t (zft (n / 128 % 16) (n % 128)) (T (n % 128)).2.2.2 = true := by
  unfold zfw at h
  split at h
  next C T N hq =>
    simp only [Bool.and_eq_true, decide_eq_true_eq] at h
    exact ⟨C, T, N, hq, h.1.1, List.mem_of_getElem? h.1.2, h.2⟩
  next => cases h
theorem znf_of {ci : Nat} {q : vw_C} (hq : zcl[ci]? = some q) : znf ci = q.2.2 := by
  unfold znf
  rw [hq]
theorem zfs_at {ρ : Nat → Nat} {H : zH} {a k : Nat} (hk : k < zN H a) : ((List.range (zN H a)).map (zfv ρ H a))[k]? = some (zfv ρ H a k) := by
  rw [List.getElem?_map, List.getElem?_range hk]
  rfl
theorem zfs_set {ρ : Nat → Nat} {H H' : zH} {a k : Nat} {v : Value} (hN : zN H' a = zN H a) (hk : k < zN H a) (hv : zfv ρ H' a k = v) (ho : ∀ j, j ≠ k → zfv ρ H' a j = zfv ρ H a j) : (List.range (zN H' a)).map (zfv ρ H' a) = ((List.range (zN H a)).map (zfv ρ H a)).set k v := by
  apply List.ext_getElem?
  intro j
  rw [List.getElem?_set, hN]
  by_cases hj : k = j
  · subst hj
    rw [if_pos rfl, if_pos (by simpa using hk), List.getElem?_map, List.getElem?_range hk]
    simp [hv]
  · rw [if_neg hj, List.getElem?_map, List.getElem?_map]
    by_cases hl : j < zN H a
    · rw [List.getElem?_range hl]
      simp [ho j (fun e => hj e.symm)]
    · rw [List.getElem?_eq_none (by simp; omega)]
      rfl
theorem zq_getI {xs : Nat → Int} {L d : Nat} {sc : Bool} {m : Nat} {Q : zQ} {J : zJt} {C : zCt} {k : zKo} {il : List Instr} {bc bs : Nat} {ls : zLs} {st : List zV} {H : zH} {n : Nat} (ih : zIH xs L d sc m Q k il) (h : zins J C sc xs L Q (.getfield n) k bc bs ls st H) : zSN xs L d bc bs sc m (.getfield n :: il) ls st H Q := by
  intro l p e R s M args below meth c G cA A b ρ Hm locs cells slots pc lsm Z hC hR hk hW h0 hst hls hc1 hc2 hZ
  obtain ⟨j, len, hd, hj, hx, ht⟩ := zchk_cons hk (by intro q; cases q) (by intro t q; cases q)
  obtain ⟨hX, hB, hL2, hret, hlk, hown, hts, hnk, hini, hK, hA, hsc⟩ := id hC
  simp only [zraw, List.mem_singleton, Prod.mk.injEq] at hj
  obtain ⟨rfl, rfl⟩ := hj
  have ht := ht.resolve_left (by simp [zte])
  simp only [zins] at h
  simp only [zext] at hx
  split at h
  next a st =>
    obtain ⟨ha, hst⟩ := List.forall_mem_cons.mp hst
    obtain ⟨hkd, h⟩ := h
    obtain ⟨C, T, N, hq, hkN, hlw, htt⟩ := zfw_spec hx
    have hal := ha a rfl
    have hk16 : zK H a < 16 := by omega
    have ha1 := zgo_lt hW.2.2.2 hal (by omega)
    obtain ⟨hNn, hk13⟩ := znf_eq hW.2.2.2 ha1 hal hk16
    rw [← hkd] at hq htt
    have hN2 : zN H a = N := by rw [hNn]; exact znf_of hq
    have hm := List.mem_of_getElem? hq
    have he := zw_at (cA := cA) (ρ := ρ) ha1 hal
    rw [zce_obj hk13] at he
    have hel := zel hW.2.2.2 ha1 hal (show n % 128 < zN H a by omega)
    have het : zet (zK H a) (n % 128) = zft (zK H a) (n % 128) := by unfold zet; rw [if_pos (by omega)]
    rw [het] at hel
    simp only [Bool.or_eq_true, beq_iff_eq] at htt
    have hfv : zfv ρ H a (n % 128) = zv ρ (zi (zA H a (n % 128))) := by unfold zfv; rw [if_neg (by omega), if_neg (by omega)]; rfl
    have hok : z32 (zA H a (n % 128)) := by
      rcases htt with q | q
      · rw [q] at hel; exact hel
      · rw [q] at hel; have hel : 0 ≤ zA H a (n % 128) ∧ zA H a (n % 128) ≤ 1 := hel; exact ⟨by omega, by omega⟩
    refine va_get (T := T) (N := N) hX hB hts (zcl_in _ hm) hown hK hW.1 (a - 1) he hq (n % 128) hkN (hts _ (zTm hlw rfl)) (fun _ q => q) (zfs_at (by omega)) hd ?_
    rw [hfv]
    exact ih bc bs ls _ H h l p e R s M args below meth c G cA A b ρ Hm locs cells slots (pc + 3) lsm Z hC hR ht hW h0 (List.forall_mem_cons.mpr ⟨hok, hst⟩) hls hc1 hc2 hZ
  next => exact h.elim
theorem zq_getL {xs : Nat → Int} {L d : Nat} {sc : Bool} {m : Nat} {Q : zQ} {J : zJt} {C : zCt} {k : zKo} {il : List Instr} {bc bs : Nat} {ls : zLs} {st : List zV} {H : zH} {n : Nat} (ih : zIH xs L d sc m Q k il) (h : zins J C sc xs L Q (.instanceof n) k bc bs ls st H) : zSN xs L d bc bs sc m (.instanceof n :: il) ls st H Q := by
  intro l p e R s M args below meth c G cA A b ρ Hm locs cells slots pc lsm Z hC hR hk hW h0 hst hls hc1 hc2 hZ
  obtain ⟨j, len, hd, hj, hx, ht⟩ := zchk_cons hk (by intro q; cases q) (by intro t q; cases q)
  obtain ⟨hX, hB, hL2, hret, hlk, hown, hts, hnk, hini, hK, hA, hsc⟩ := id hC
  simp only [zraw, List.mem_singleton, Prod.mk.injEq] at hj
  obtain ⟨rfl, rfl⟩ := hj
  have ht := ht.resolve_left (by simp [zte])
  simp only [zins] at h
  simp only [zext] at hx
  split at h
  next a st =>
    obtain ⟨ha, hst⟩ := List.forall_mem_cons.mp hst
    obtain ⟨hkd, h⟩ := h
    obtain ⟨C, T, N, hq, hkN, hlw, htt⟩ := zfw_spec hx
    have hal := ha a rfl
    have hk16 : zK H a < 16 := by omega
    have ha1 := zgo_lt hW.2.2.2 hal (by omega)
    obtain ⟨hNn, hk13⟩ := znf_eq hW.2.2.2 ha1 hal hk16
    rw [← hkd] at hq htt
    have hN2 : zN H a = N := by rw [hNn]; exact znf_of hq
    have hm := List.mem_of_getElem? hq
    have he := zw_at (cA := cA) (ρ := ρ) ha1 hal
    rw [zce_obj hk13] at he
    have hel := zel hW.2.2.2 ha1 hal (show n % 128 < zN H a by omega)
    have het : zet (zK H a) (n % 128) = zft (zK H a) (n % 128) := by unfold zet; rw [if_pos (by omega)]
    rw [het] at hel
    simp only [beq_iff_eq] at htt
    have hfv : zfv ρ H a (n % 128) = zv ρ (zl (zA H a (n % 128))) := by unfold zfv; rw [if_neg (by omega), if_pos (by omega)]; rfl
    have hok : z64 (zA H a (n % 128)) := by rw [htt] at hel; exact hel
    refine va_get (T := T) (N := N) hX hB hts (zcl_in _ hm) hown hK hW.1 (a - 1) he hq (n % 128) hkN (hts _ (zTm hlw rfl)) (fun _ q => q) (zfs_at (by omega)) hd ?_
    rw [hfv]
    exact ih bc bs ls _ H h l p e R s M args below meth c G cA A b ρ Hm locs cells slots (pc + 3) lsm Z hC hR ht hW h0 (List.forall_mem_cons.mpr ⟨hok, hst⟩) hls hc1 hc2 hZ
  next => exact h.elim
theorem zq_getR {xs : Nat → Int} {L d : Nat} {sc : Bool} {m : Nat} {Q : zQ} {J : zJt} {C : zCt} {k : zKo} {il : List Instr} {bc bs : Nat} {ls : zLs} {st : List zV} {H : zH} {n : Nat} (ih : zIH xs L d sc m Q k il) (h : zins J C sc xs L Q (.getstatic n) k bc bs ls st H) : zSN xs L d bc bs sc m (.getstatic n :: il) ls st H Q := by
  intro l p e R s M args below meth c G cA A b ρ Hm locs cells slots pc lsm Z hC hR hk hW h0 hst hls hc1 hc2 hZ
  obtain ⟨j, len, hd, hj, hx, ht⟩ := zchk_cons hk (by intro q; cases q) (by intro t q; cases q)
  obtain ⟨hX, hB, hL2, hret, hlk, hown, hts, hnk, hini, hK, hA, hsc⟩ := id hC
  simp only [zraw, List.mem_singleton, Prod.mk.injEq] at hj
  obtain ⟨rfl, rfl⟩ := hj
  have ht := ht.resolve_left (by simp [zte])
  simp only [zins] at h
  simp only [zext] at hx
  split at h
  next a st =>
    obtain ⟨ha, hst⟩ := List.forall_mem_cons.mp hst
    obtain ⟨hkd, h⟩ := h
    obtain ⟨C, T, N, hq, hkN, hlw, htt⟩ := zfw_spec hx
    have hal := ha a rfl
    have hk16 : zK H a < 16 := by omega
    have ha1 := zgo_lt hW.2.2.2 hal (by omega)
    obtain ⟨hNn, hk13⟩ := znf_eq hW.2.2.2 ha1 hal hk16
    rw [← hkd] at hq htt
    have hN2 : zN H a = N := by rw [hNn]; exact znf_of hq
    have hm := List.mem_of_getElem? hq
    have he := zw_at (cA := cA) (ρ := ρ) ha1 hal
    rw [zce_obj hk13] at he
    have hel := zel hW.2.2.2 ha1 hal (show n % 128 < zN H a by omega)
    have het : zet (zK H a) (n % 128) = zft (zK H a) (n % 128) := by unfold zet; rw [if_pos (by omega)]
    rw [het] at hel
    simp only [beq_iff_eq] at htt
    have hfv : zfv ρ H a (n % 128) = zv ρ (zr (zR H a (n % 128))) := by unfold zfv; rw [if_pos (by omega)]; rfl
    have hok : zvo (zS H) (zr (zR H a (n % 128))) := by rw [htt] at hel; exact hel
    refine va_get (T := T) (N := N) hX hB hts (zcl_in _ hm) hown hK hW.1 (a - 1) he hq (n % 128) hkN (hts _ (zTm hlw rfl)) (fun _ q => q) (zfs_at (by omega)) hd ?_
    rw [hfv]
    exact ih bc bs ls _ H h l p e R s M args below meth c G cA A b ρ Hm locs cells slots (pc + 3) lsm Z hC hR ht hW h0 (List.forall_mem_cons.mpr ⟨hok, hst⟩) hls hc1 hc2 hZ
  next => exact h.elim
theorem zq_putI {xs : Nat → Int} {L d : Nat} {sc : Bool} {m : Nat} {Q : zQ} {J : zJt} {C : zCt} {k : zKo} {il : List Instr} {bc bs : Nat} {ls : zLs} {st : List zV} {H : zH} {n : Nat} (ih : zIH xs L d sc m Q k il) (h : zins J C sc xs L Q (.putfield n) k bc bs ls st H) : zSN xs L d bc bs sc m (.putfield n :: il) ls st H Q := by
  intro l p e R s M args below meth c G cA A b ρ Hm locs cells slots pc lsm Z hC hR hk hW h0 hst hls hc1 hc2 hZ
  obtain ⟨j, len, hd, hj, hx, ht⟩ := zchk_cons hk (by intro q; cases q) (by intro t q; cases q)
  obtain ⟨hX, hB, hL2, hret, hlk, hown, hts, hnk, hini, hK, hA, hsc⟩ := id hC
  simp only [zraw, List.mem_singleton, Prod.mk.injEq] at hj
  obtain ⟨rfl, rfl⟩ := hj
  have ht := ht.resolve_left (by simp [zte])
  simp only [zins] at h
  simp only [zext] at hx
  split at h
  next x a st =>
    obtain ⟨hx2, hst⟩ := List.forall_mem_cons.mp hst
    obtain ⟨ha, hst⟩ := List.forall_mem_cons.mp hst
    obtain ⟨hkd, h⟩ := h
    obtain ⟨C, T, N, hq, hkN, hlw, htt⟩ := zfw_spec hx
    have hal := ha a rfl
    have hk16 : zK H a < 16 := by omega
    have ha1 := zgo_lt hW.2.2.2 hal (by omega)
    obtain ⟨hNn, hk13⟩ := znf_eq hW.2.2.2 ha1 hal hk16
    rw [← hkd] at hq htt
    have hN2 : zN H a = N := by rw [hNn]; exact znf_of hq
    have hm := List.mem_of_getElem? hq
    have he := zw_at (cA := cA) (ρ := ρ) ha1 hal
    rw [zce_obj hk13] at he
    have hel := zel hW.2.2.2 ha1 hal (show n % 128 < zN H a by omega)
    have het : zet (zK H a) (n % 128) = zft (zK H a) (n % 128) := by unfold zet; rw [if_pos (by omega)]
    rw [het] at hel
    (simp only [Bool.and_eq_true, beq_iff_eq, Bool.not_eq_true'] at htt)
    have hfv : zfv ρ (zwA H a (n % 128) x) a (n % 128) = zv ρ (Sum.inl x) := by
      unfold zfv
      rw [show zK (zwA H a (n % 128) x) a = zK H a from rfl]
      rw [if_neg (by omega), if_neg (by omega), zA_wA, if_pos ⟨rfl, rfl⟩]
      try rfl
    have hfo : ∀ j, j ≠ n % 128 → zfv ρ (zwA H a (n % 128) x) a j = zfv ρ H a j := by
      intro j hj
      unfold zfv
      rw [show zK (zwA H a (n % 128) x) a = zK H a from rfl, show zA (zwA H a (n % 128) x) a j = zA H a j from (if_neg (fun z => hj z.2)), show zR (zwA H a (n % 128) x) a j = zR H a j from (rfl)]
    have ew : zw cA ρ (zwA H a (n % 128) x) = (zw cA ρ H).set (a - 1) (ρ a, .inr (zK H a, ((List.range (zN H a)).map (zfv ρ H a)).set (n % 128) (zv ρ (Sum.inl x)))) := by
      rw [zw_set (H := H) (H' := zwA H a (n % 128) x) ha1 hal rfl (fun b hb => zce_wA hb), zce_obj (show zK (zwA H a (n % 128) x) a < 13 from hk13), zfs_set (H := H) (H' := zwA H a (n % 128) x) (a := a) (k := n % 128) rfl (show n % 128 < zN H a by omega) hfv hfo]
      try rfl
    have hgo : zgo (zwA H a (n % 128) x) := zgo_wA hW.2.2.2 (by rw [het]; rw [htt.1]; exact hx2)
    obtain ⟨ty0, hty0⟩ := zcl_ty _ hm
    refine va_put (T := T) (N := N) hX hB hts (zcl_in _ hm) ty0 hty0 (zcl_nm _ hm) hown hK hW.1 hW.2.1 hW.2.2.1 (a - 1) he hq (n % 128) hkN (hts _ (zTm hlw rfl)) (fun _ q => q) htt.2 (zfs_0 hq hkN htt.1) rfl rfl (by simp; omega) hd (fun H1 locs1 hP1 hD1 hS1 => ?_)
    rw [← ew] at hP1 hD1
    exact ih bc bs ls _ _ h l p e R s M args below meth c G cA A b ρ H1 locs1 cells slots (pc + 3) lsm Z hC hR ht ⟨hP1, hD1, hS1, hgo⟩ h0 hst hls hc1 hc2 hZ
  next => exact h.elim
theorem zq_putZ {xs : Nat → Int} {L d : Nat} {sc : Bool} {m : Nat} {Q : zQ} {J : zJt} {C : zCt} {k : zKo} {il : List Instr} {bc bs : Nat} {ls : zLs} {st : List zV} {H : zH} {n : Nat} (ih : zIH xs L d sc m Q k il) (h : zins J C sc xs L Q (.invokedynamic n) k bc bs ls st H) : zSN xs L d bc bs sc m (.invokedynamic n :: il) ls st H Q := by
  intro l p e R s M args below meth c G cA A b ρ Hm locs cells slots pc lsm Z hC hR hk hW h0 hst hls hc1 hc2 hZ
  obtain ⟨j, len, hd, hj, hx, ht⟩ := zchk_cons hk (by intro q; cases q) (by intro t q; cases q)
  obtain ⟨hX, hB, hL2, hret, hlk, hown, hts, hnk, hini, hK, hA, hsc⟩ := id hC
  simp only [zraw, List.mem_singleton, Prod.mk.injEq] at hj
  obtain ⟨rfl, rfl⟩ := hj
  have ht := ht.resolve_left (by simp [zte])
  simp only [zins] at h
  simp only [zext] at hx
  split at h
  next x a st =>
    obtain ⟨hx2, hst⟩ := List.forall_mem_cons.mp hst
    obtain ⟨ha, hst⟩ := List.forall_mem_cons.mp hst
    obtain ⟨hkd, hr1, hr2, h⟩ := h
    obtain ⟨C, T, N, hq, hkN, hlw, htt⟩ := zfw_spec hx
    have hal := ha a rfl
    have hk16 : zK H a < 16 := by omega
    have ha1 := zgo_lt hW.2.2.2 hal (by omega)
    obtain ⟨hNn, hk13⟩ := znf_eq hW.2.2.2 ha1 hal hk16
    rw [← hkd] at hq htt
    have hN2 : zN H a = N := by rw [hNn]; exact znf_of hq
    have hm := List.mem_of_getElem? hq
    have he := zw_at (cA := cA) (ρ := ρ) ha1 hal
    rw [zce_obj hk13] at he
    have hel := zel hW.2.2.2 ha1 hal (show n % 128 < zN H a by omega)
    have het : zet (zK H a) (n % 128) = zft (zK H a) (n % 128) := by unfold zet; rw [if_pos (by omega)]
    rw [het] at hel
    (simp only [Bool.and_eq_true, beq_iff_eq, Bool.not_eq_true'] at htt)
    have hfv : zfv ρ (zwA H a (n % 128) x) a (n % 128) = zv ρ (Sum.inl x) := by
      unfold zfv
      rw [show zK (zwA H a (n % 128) x) a = zK H a from rfl]
      rw [if_neg (by omega), if_neg (by omega), zA_wA, if_pos ⟨rfl, rfl⟩]
      try rfl
    have hfo : ∀ j, j ≠ n % 128 → zfv ρ (zwA H a (n % 128) x) a j = zfv ρ H a j := by
      intro j hj
      unfold zfv
      rw [show zK (zwA H a (n % 128) x) a = zK H a from rfl, show zA (zwA H a (n % 128) x) a j = zA H a j from (if_neg (fun z => hj z.2)), show zR (zwA H a (n % 128) x) a j = zR H a j from (rfl)]
    have ew : zw cA ρ (zwA H a (n % 128) x) = (zw cA ρ H).set (a - 1) (ρ a, .inr (zK H a, ((List.range (zN H a)).map (zfv ρ H a)).set (n % 128) (zv ρ (Sum.inl x)))) := by
      rw [zw_set (H := H) (H' := zwA H a (n % 128) x) ha1 hal rfl (fun b hb => zce_wA hb), zce_obj (show zK (zwA H a (n % 128) x) a < 13 from hk13), zfs_set (H := H) (H' := zwA H a (n % 128) x) (a := a) (k := n % 128) rfl (show n % 128 < zN H a by omega) hfv hfo]
      try rfl
    have hgo : zgo (zwA H a (n % 128) x) := zgo_wA hW.2.2.2 (by rw [het]; rw [htt.1]; exact ⟨hr1, hr2⟩)
    obtain ⟨ty0, hty0⟩ := zcl_ty _ hm
    refine va_put (T := T) (N := N) hX hB hts (zcl_in _ hm) ty0 hty0 (zcl_nm _ hm) hown hK hW.1 hW.2.1 hW.2.2.1 (a - 1) he hq (n % 128) hkN (hts _ (zTm hlw rfl)) (fun _ q => q) htt.2 (zfs_3 hq hkN htt.1) (by rcases (show x = 0 ∨ x = 1 by omega) with rfl | rfl <;> rfl) (by rcases (show x = 0 ∨ x = 1 by omega) with rfl | rfl <;> rfl) (by simp; omega) hd (fun H1 locs1 hP1 hD1 hS1 => ?_)
    rw [← ew] at hP1 hD1
    exact ih bc bs ls _ _ h l p e R s M args below meth c G cA A b ρ H1 locs1 cells slots (pc + 3) lsm Z hC hR ht ⟨hP1, hD1, hS1, hgo⟩ h0 hst hls hc1 hc2 hZ
  next => exact h.elim
theorem zq_putL {xs : Nat → Int} {L d : Nat} {sc : Bool} {m : Nat} {Q : zQ} {J : zJt} {C : zCt} {k : zKo} {il : List Instr} {bc bs : Nat} {ls : zLs} {st : List zV} {H : zH} {n : Nat} (ih : zIH xs L d sc m Q k il) (h : zins J C sc xs L Q (.checkcast n) k bc bs ls st H) : zSN xs L d bc bs sc m (.checkcast n :: il) ls st H Q := by
  intro l p e R s M args below meth c G cA A b ρ Hm locs cells slots pc lsm Z hC hR hk hW h0 hst hls hc1 hc2 hZ
  obtain ⟨j, len, hd, hj, hx, ht⟩ := zchk_cons hk (by intro q; cases q) (by intro t q; cases q)
  obtain ⟨hX, hB, hL2, hret, hlk, hown, hts, hnk, hini, hK, hA, hsc⟩ := id hC
  simp only [zraw, List.mem_singleton, Prod.mk.injEq] at hj
  obtain ⟨rfl, rfl⟩ := hj
  have ht := ht.resolve_left (by simp [zte])
  simp only [zins] at h
  simp only [zext] at hx
  split at h
  next x a st =>
    obtain ⟨hx2, hst⟩ := List.forall_mem_cons.mp hst
    obtain ⟨ha, hst⟩ := List.forall_mem_cons.mp hst
    obtain ⟨hkd, h⟩ := h
    obtain ⟨C, T, N, hq, hkN, hlw, htt⟩ := zfw_spec hx
    have hal := ha a rfl
    have hk16 : zK H a < 16 := by omega
    have ha1 := zgo_lt hW.2.2.2 hal (by omega)
    obtain ⟨hNn, hk13⟩ := znf_eq hW.2.2.2 ha1 hal hk16
    rw [← hkd] at hq htt
    have hN2 : zN H a = N := by rw [hNn]; exact znf_of hq
    have hm := List.mem_of_getElem? hq
    have he := zw_at (cA := cA) (ρ := ρ) ha1 hal
    rw [zce_obj hk13] at he
    have hel := zel hW.2.2.2 ha1 hal (show n % 128 < zN H a by omega)
    have het : zet (zK H a) (n % 128) = zft (zK H a) (n % 128) := by unfold zet; rw [if_pos (by omega)]
    rw [het] at hel
    (simp only [Bool.and_eq_true, beq_iff_eq, Bool.not_eq_true'] at htt)
    have hfv : zfv ρ (zwA H a (n % 128) x) a (n % 128) = zv ρ (Sum.inr (Sum.inl x)) := by
      unfold zfv
      rw [show zK (zwA H a (n % 128) x) a = zK H a from rfl]
      rw [if_neg (by omega), if_pos (by omega), zA_wA, if_pos ⟨rfl, rfl⟩]
      try rfl
    have hfo : ∀ j, j ≠ n % 128 → zfv ρ (zwA H a (n % 128) x) a j = zfv ρ H a j := by
      intro j hj
      unfold zfv
      rw [show zK (zwA H a (n % 128) x) a = zK H a from rfl, show zA (zwA H a (n % 128) x) a j = zA H a j from (if_neg (fun z => hj z.2)), show zR (zwA H a (n % 128) x) a j = zR H a j from (rfl)]
    have ew : zw cA ρ (zwA H a (n % 128) x) = (zw cA ρ H).set (a - 1) (ρ a, .inr (zK H a, ((List.range (zN H a)).map (zfv ρ H a)).set (n % 128) (zv ρ (Sum.inr (Sum.inl x))))) := by
      rw [zw_set (H := H) (H' := zwA H a (n % 128) x) ha1 hal rfl (fun b hb => zce_wA hb), zce_obj (show zK (zwA H a (n % 128) x) a < 13 from hk13), zfs_set (H := H) (H' := zwA H a (n % 128) x) (a := a) (k := n % 128) rfl (show n % 128 < zN H a by omega) hfv hfo]
      try rfl
    have hgo : zgo (zwA H a (n % 128) x) := zgo_wA hW.2.2.2 (by rw [het]; rw [htt.1]; exact hx2)
    obtain ⟨ty0, hty0⟩ := zcl_ty _ hm
    refine va_put (T := T) (N := N) hX hB hts (zcl_in _ hm) ty0 hty0 (zcl_nm _ hm) hown hK hW.1 hW.2.1 hW.2.2.1 (a - 1) he hq (n % 128) hkN (hts _ (zTm hlw rfl)) (fun _ q => q) htt.2 (zfs_1 hq hkN htt.1) rfl rfl (by simp; omega) hd (fun H1 locs1 hP1 hD1 hS1 => ?_)
    rw [← ew] at hP1 hD1
    exact ih bc bs ls _ _ h l p e R s M args below meth c G cA A b ρ H1 locs1 cells slots (pc + 3) lsm Z hC hR ht ⟨hP1, hD1, hS1, hgo⟩ h0 hst hls hc1 hc2 hZ
  next => exact h.elim
theorem zq_putR {xs : Nat → Int} {L d : Nat} {sc : Bool} {m : Nat} {Q : zQ} {J : zJt} {C : zCt} {k : zKo} {il : List Instr} {bc bs : Nat} {ls : zLs} {st : List zV} {H : zH} {n : Nat} (ih : zIH xs L d sc m Q k il) (h : zins J C sc xs L Q (.putstatic n) k bc bs ls st H) : zSN xs L d bc bs sc m (.putstatic n :: il) ls st H Q := by
  intro l p e R s M args below meth c G cA A b ρ Hm locs cells slots pc lsm Z hC hR hk hW h0 hst hls hc1 hc2 hZ
  obtain ⟨j, len, hd, hj, hx, ht⟩ := zchk_cons hk (by intro q; cases q) (by intro t q; cases q)
  obtain ⟨hX, hB, hL2, hret, hlk, hown, hts, hnk, hini, hK, hA, hsc⟩ := id hC
  simp only [zraw, List.mem_singleton, Prod.mk.injEq] at hj
  obtain ⟨rfl, rfl⟩ := hj
  have ht := ht.resolve_left (by simp [zte])
  simp only [zins] at h
  simp only [zext] at hx
  split at h
  next x a st =>
    obtain ⟨hx2, hst⟩ := List.forall_mem_cons.mp hst
    obtain ⟨ha, hst⟩ := List.forall_mem_cons.mp hst
    obtain ⟨hkd, h⟩ := h
    obtain ⟨C, T, N, hq, hkN, hlw, htt⟩ := zfw_spec hx
    have hal := ha a rfl
    have hk16 : zK H a < 16 := by omega
    have ha1 := zgo_lt hW.2.2.2 hal (by omega)
    obtain ⟨hNn, hk13⟩ := znf_eq hW.2.2.2 ha1 hal hk16
    rw [← hkd] at hq htt
    have hN2 : zN H a = N := by rw [hNn]; exact znf_of hq
    have hm := List.mem_of_getElem? hq
    have he := zw_at (cA := cA) (ρ := ρ) ha1 hal
    rw [zce_obj hk13] at he
    have hel := zel hW.2.2.2 ha1 hal (show n % 128 < zN H a by omega)
    have het : zet (zK H a) (n % 128) = zft (zK H a) (n % 128) := by unfold zet; rw [if_pos (by omega)]
    rw [het] at hel
    (simp only [Bool.and_eq_true, Bool.or_eq_true, beq_iff_eq, Bool.not_eq_true', decide_eq_true_eq] at htt)
    have hfv : zfv ρ (zwR H a (n % 128) x) a (n % 128) = zv ρ (Sum.inr (Sum.inr x)) := by
      unfold zfv
      rw [show zK (zwR H a (n % 128) x) a = zK H a from rfl]
      rw [if_pos (by omega), zR_wR, if_pos ⟨rfl, rfl⟩]
      try rfl
    have hfo : ∀ j, j ≠ n % 128 → zfv ρ (zwR H a (n % 128) x) a j = zfv ρ H a j := by
      intro j hj
      unfold zfv
      rw [show zK (zwR H a (n % 128) x) a = zK H a from rfl, show zA (zwR H a (n % 128) x) a j = zA H a j from (rfl), show zR (zwR H a (n % 128) x) a j = zR H a j from (if_neg (fun z => hj z.2))]
    have ew : zw cA ρ (zwR H a (n % 128) x) = (zw cA ρ H).set (a - 1) (ρ a, .inr (zK H a, ((List.range (zN H a)).map (zfv ρ H a)).set (n % 128) (zv ρ (Sum.inr (Sum.inr x))))) := by
      rw [zw_set (H := H) (H' := zwR H a (n % 128) x) ha1 hal rfl (fun b hb => zce_wR hb), zce_obj (show zK (zwR H a (n % 128) x) a < 13 from hk13), zfs_set (H := H) (H' := zwR H a (n % 128) x) (a := a) (k := n % 128) rfl (show n % 128 < zN H a by omega) hfv hfo]
      try rfl
    have hgo : zgo (zwR H a (n % 128) x) := zgo_wR hW.2.2.2 (fun q => by omega) (by rw [het]; rw [htt.1]; exact hx2)
    obtain ⟨ty0, hty0⟩ := zcl_ty _ hm
    obtain ⟨tyr, hpr, hnf, -⟩ := zfs_2 hq hkN htt.1
    rcases htt.2 with hf | ⟨hct, hdl⟩
    · refine va_put (T := T) (N := N) hX hB hts (zcl_in _ hm) ty0 hty0 (zcl_nm _ hm) hown hK hW.1 hW.2.1 hW.2.2.1 (a - 1) he hq (n % 128) hkN (hts _ (zTm hlw rfl)) (fun _ q => q) hf (hpr) (hnf _).1 (hnf _).2 (by simp; omega) hd (fun H1 locs1 hP1 hD1 hS1 => ?_)
      rw [← ew] at hP1 hD1
      exact ih bc bs ls _ _ h l p e R s M args below meth c G cA A b ρ H1 locs1 cells slots (pc + 3) lsm Z hC hR ht ⟨hP1, hD1, hS1, hgo⟩ h0 hst hls hc1 hc2 hZ
    · by_cases hf : (T (n % 128)).2.2.2 = true
      · have hdl : (T (n % 128)).1 = zon m := by rw [hq] at hdl; exact Option.some.inj hdl
        refine va_putF (T := T) (N := N) hX hB hts (zcl_in _ hm) ty0 hty0 (zcl_nm _ hm) hown hK hW.1 hW.2.1 hW.2.2.1 (a - 1) he hq (n % 128) hkN (hts _ (zTm hlw rfl)) (fun _ q => q) hf (hini hct) hdl (hpr) (hnf _).1 (hnf _).2 (by simp; omega) hd (fun H1 locs1 hP1 hD1 hS1 => ?_)
        rw [← ew] at hP1 hD1
        exact ih bc bs ls _ _ h l p e R s M args below meth c G cA A b ρ H1 locs1 cells slots (pc + 3) lsm Z hC hR ht ⟨hP1, hD1, hS1, hgo⟩ h0 hst hls hc1 hc2 hZ
      · refine va_put (T := T) (N := N) hX hB hts (zcl_in _ hm) ty0 hty0 (zcl_nm _ hm) hown hK hW.1 hW.2.1 hW.2.2.1 (a - 1) he hq (n % 128) hkN (hts _ (zTm hlw rfl)) (fun _ q => q) (Bool.not_eq_true _ ▸ hf) (hpr) (hnf _).1 (hnf _).2 (by simp; omega) hd (fun H1 locs1 hP1 hD1 hS1 => ?_)
        rw [← ew] at hP1 hD1
        exact ih bc bs ls _ _ h l p e R s M args below meth c G cA A b ρ H1 locs1 cells slots (pc + 3) lsm Z hC hR ht ⟨hP1, hD1, hS1, hgo⟩ h0 hst hls hc1 hc2 hZ
  next => exact h.elim
