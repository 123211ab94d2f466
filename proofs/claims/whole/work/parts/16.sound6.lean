theorem zrx {ρ : Nat → Nat} {H : zH} {q : Nat} : ∀ a, a < zS H → (fun x => if x = zS H then q else ρ x) a = ρ a := by
  intro a ha
  show (if a = zS H then q else ρ a) = ρ a
  rw [if_neg (by omega)]
theorem zmp {ρ ρ' : Nat → Nat} {n : Nat} (h : ∀ a, a < n → ρ' a = ρ a) {r : Option Nat} (hr : ∀ a, r = some a → a < n) : r.map ρ' = r.map ρ := by
  cases r with
  | none => rfl
  | some a => show some (ρ' a) = some (ρ a); rw [h a (hr a rfl)]
/-- what a cell refers to is there, where it counts -/
theorem zfv_ext {ρ ρ' : Nat → Nat} {H H' : zH} {a k : Nat} (h : ∀ b, b < zS H → ρ' b = ρ b) (hk : zK H' a = zK H a) (hA : zA H' a k = zA H a k) (hR : zR H' a k = zR H a k) (hK : zK H a < 100) (ho : zok1 (zS H) (zet (zK H a) k) (zA H a k) (zR H a k)) : zfv ρ' H' a k = zfv ρ H a k := by
  unfold zfv
  rw [hk, hA, hR]
  unfold zet at ho
  rw [if_pos hK] at ho
  by_cases h2 : zft (zK H a) k = 2
  · rw [h2] at ho
    rw [if_pos h2, if_pos h2, zmp h ho]
  · rw [if_neg h2, if_neg h2]
/-- a cell of references has them at each of its places alone: the rest counts for nothing -/
theorem zce_ext {cA : Nat → ClassId} {ρ ρ' : Nat → Nat} {H H' : zH} {a : Nat} (hg : zgo H) (h1 : 1 ≤ a) (h2 : a < zS H) (h : ∀ b, b < zS H → ρ' b = ρ b) (hk : zK H' a = zK H a) (hN : zN H' a = zN H a) (hA : ∀ k, zA H' a k = zA H a k) (hR : ∀ k, zR H' a k = zR H a k) : zce cA ρ' H' a = zce cA ρ H a := by
  obtain ⟨q1, q2⟩ := hg.2.2.1 a h1 h2
  by_cases h13 : zK H a < 13
  · rw [zce_obj (by rw [hk]; exact h13), zce_obj h13, hk, hN]
    congr 2
    apply List.map_congr_left
    intro k hkk
    exact zfv_ext h hk (hA k) (hR k) (by omega) (q2 k (List.mem_range.mp hkk))
  · have hAf : (fun j => zA H' a j) = fun j => zA H a j := funext hA
    rcases q1 with q1 | ⟨k1, k2, -⟩
    · exact absurd q1.1 h13
    · rcases (show zK H a = 100 ∨ zK H a = 101 ∨ zK H a = 102 ∨ zK H a = 103 ∨ zK H a = 104 by omega) with e | e | e | e | e
      · rw [zce_int (by rw [hk]; exact e), zce_int e, hN]; simp only [hA]
      · rw [zce_byte (by rw [hk]; exact e), zce_byte e, hN]; simp only [hA]
      · rw [zce_bool (by rw [hk]; exact e), zce_bool e, hN]; simp only [hA]
      · rw [zce_long (by rw [hk]; exact e), zce_long e, hN]; simp only [hA]
      · rw [zce_ref (by rw [hk]; exact e), zce_ref e, hN]
        have ef : (fun j => (zR H' a j).map ρ') = fun j => (zR H a j).map ρ := by
          funext j
          rw [hR]
          by_cases hj : j < zN H a
          · have ho := q2 j hj
            rw [e] at ho
            exact zmp h ho
          · rw [hg.2.2.2 a h2 e j (by omega)]
            rfl
        rw [ef]
theorem zcats (ρ : Nat → Nat) (st : List zV) : ((st.map (zv ρ)).map fun v => v.category).sum ≤ 2 * st.length := by
  induction st with
  | nil => simp
  | cons v st ih =>
    have : (zv ρ v).category ≤ 2 := by rcases lv_cat (zv ρ v) with h | h <;> omega
    simp only [List.map_cons, List.sum_cons, List.length_cons]
    omega
theorem zcpw : nativeFrameWords "java/lang/System" "arraycopy" 5 = 7 := by decide
theorem zgo_cp {H : zH} {a sp b dp n : Nat} (hg : zgo H) (ha1 : 1 ≤ a) (ha : a < zS H) (hk : zK H a = zK H b) (hK : 100 ≤ zK H a ∧ zK H a < 104) (hn : sp + n ≤ zN H a) : zgo (zcp H a sp b dp n) := by
  refine ⟨hg.1, hg.2.1, fun c h1 h2 => ⟨(hg.2.2.1 c h1 h2).1, fun k hkk => ?_⟩, hg.2.2.2⟩
  rw [zA_cp, zR_cp, zK_cp, zS_cp]
  by_cases h : c = b ∧ dp ≤ k ∧ k < dp + n
  · rw [if_pos h]
    obtain ⟨rfl, h3, h4⟩ := h
    have ho := (hg.2.2.1 a ha1 ha).2 (sp + (k - dp)) (by omega)
    rw [hk] at ho
    have hK2 : 100 ≤ zK H c ∧ zK H c < 104 := by omega
    unfold zet at ho ⊢
    rw [if_neg (by omega)] at ho ⊢
    by_cases e3 : zK H c = 103
    · rw [if_pos e3] at ho ⊢; exact ho
    · rw [if_neg e3, if_neg (by omega)] at ho ⊢
      by_cases e2 : zK H c = 102
      · rw [if_pos e2] at ho ⊢; exact ho
      · rw [if_neg e2] at ho ⊢
        by_cases e1 : zK H c = 101
        · rw [if_pos e1] at ho ⊢; exact ho
        · rw [if_neg e1] at ho ⊢; exact ho
  · rw [if_neg h]
    exact (hg.2.2.1 c h1 h2).2 k hkk
theorem zq_newq {xs : Nat → Int} {L d : Nat} {sc : Bool} {m : Nat} {Q : zQ} {J : zJt} {C : zCt} {k : zKo} {il : List Instr} {bc bs : Nat} {ls : zLs} {st : List zV} {H : zH} {nn : Nat} (ih : zIH xs L d sc m Q k il) (h : zins J C sc xs L Q (.anewarray nn) k bc bs ls st H) : zSN xs L d bc bs sc m (.anewarray nn :: il) ls st H Q := by
  intro l p e R s M args below meth c G cA A b ρ Hm locs cells slots pc lsm Z hC hR hk hW h0 hst hls hc1 hc2 hZ
  obtain ⟨j, len, hd, hj, hx, ht⟩ := zchk_cons hk (by intro q; cases q) (by intro t q; cases q)
  obtain ⟨hX, hB, hL2, hret, hlk, hown, hts, hnk, hini, hK, hA, hsc⟩ := id hC
  simp only [zraw, List.mem_singleton, Prod.mk.injEq] at hj
  obtain ⟨rfl, rfl⟩ := hj
  have ht := ht.resolve_left (by simp [zte])
  simp only [zins] at h
  simp only [zext, decide_eq_true_eq] at hx
  split at h
  next n st =>
    obtain ⟨hn2, hst⟩ := List.forall_mem_cons.mp hst
    obtain ⟨h1, h2, h3, h4, h⟩ := h
    have hsz := hW.2.2.2.1
    have hN1 : n.toNat ≤ 1000000 := by omega
    obtain ⟨hng, hcl⟩ := z_ge h1 h2
    refine va_newq (C := "StagePair$Shapes") hX hB hown (hts _ (zTm (List.mem_of_getElem? hx) rfl)) hnk.2 hK hW.1 hW.2.1 hW.2.2.1 hA hng hcl (by omega) (by omega) (by omega) hd (fun q cA' H1 hK1 hP1 hD1 hS1 => ?_)
    have ec : cA' = cA 4 := zRA_eq (hK.2 4 (cA 4, .object "StagePair$Shapes") rfl).2 (hK1.2 5 (cA', .object "StagePair$Shapes") rfl).2 rfl
    subst ec
    have hgo : zgo (znw H (104) (n.toNat)) := zgo_nw hW.2.2.2 (Or.inr ⟨by omega, by omega, hN1⟩)
    have ew : zw cA (fun x => if x = zS H then q else ρ x) (znw H (104) (n.toNat)) = zw cA ρ H ++ [(q, zce cA (fun x => if x = zS H then q else ρ x) (znw H (104) (n.toNat)) (zS H))] := by
      have e1 := zw_push (cA := cA) (ρ := ρ) (ρ' := fun x => if x = zS H then q else ρ x) (H := H) (H' := znw H (104) (n.toNat)) hsz rfl zrx (fun b h1 h2 => zce_ext hW.2.2.2 h1 h2 zrx (by rw [zK_nw, if_neg (by omega)]) (by rw [zN_nw, if_neg (by omega)]) (fun k => by rw [zA_nw, if_neg (by omega)]) (fun k => by rw [zR_nw, if_neg (by omega)]))
      rw [e1]
      simp
    have ekz : zK (znw H (104) (n.toNat)) (zS H) = 104 := by rw [zK_nw, if_pos rfl]
    have enz : zN (znw H (104) (n.toNat)) (zS H) = n.toNat := by rw [zN_nw, if_pos rfl]
    have eaz : ∀ k, zA (znw H (104) (n.toNat)) (zS H) k = 0 := fun k => by rw [zA_nw, if_pos rfl]
    have erz : ∀ k, zR (znw H (104) (n.toNat)) (zS H) k = none := fun k => by rw [zR_nw, if_pos rfl]
    rw [zce_ref ekz, enz] at ew
    simp only [erz, Option.map_none] at ew
    rw [← ew] at hP1 hD1
    have e2 : Value.ref q :: st.map (zv ρ) = (zr (some (zS H)) :: st).map (zv (fun x => if x = zS H then q else ρ x)) := by
      rw [List.map_cons, zvs_ext zrx hst]
      show _ = Value.ref (if zS H = zS H then q else ρ (zS H)) :: _
      rw [if_pos rfl]
    rw [e2]
    exact ih (bc - 1) (bs - n.toNat) ls _ _ h l p e R s M args below meth c G cA A b (fun x => if x = zS H then q else ρ x) H1 locs (cells + 1) (slots + n.toNat) (pc + 3) lsm Z hC hR ht ⟨hP1, hD1, hS1, hgo⟩ (fun q => by show (if 0 = zS H then _ else _) = b; rw [if_neg (by omega)]; exact h0 q) (List.forall_mem_cons.mpr ⟨fun a ha => by cases ha; rw [zS_nw]; omega, fun v hv => zvo_mono (by rw [zS_nw]; omega) (hst v hv)⟩) (hls.ext zrx (by rw [zS_nw]; omega)) (by omega) (by omega) (fun r H' ρ' Hm' locs' cells' slots' pc' lsm' g1 g2 g3 g4 g5 g6 g7 => hZ r H' ρ' Hm' locs' cells' slots' pc' lsm' g1 g2 (fun a ha => (g3 a (by rw [zS_nw]; omega)).trans (zrx a ha)) (by rw [zS_nw] at g4; omega) (by omega) (by omega) g7)
  next => exact h.elim
theorem zq_newa_int {xs : Nat → Int} {L d : Nat} {sc : Bool} {m : Nat} {Q : zQ} {J : zJt} {C : zCt} {k : zKo} {il : List Instr} {bc bs : Nat} {ls : zLs} {st : List zV} {H : zH} (ih : zIH xs L d sc m Q k il) (h : zins J C sc xs L Q (.newarray .int) k bc bs ls st H) : zSN xs L d bc bs sc m (.newarray .int :: il) ls st H Q := by
  intro l p e R s M args below meth c G cA A b ρ Hm locs cells slots pc lsm Z hC hR hk hW h0 hst hls hc1 hc2 hZ
  obtain ⟨j, len, hd, hj, hx, ht⟩ := zchk_cons hk (by intro q; cases q) (by intro t q; cases q)
  obtain ⟨hX, hB, hL2, hret, hlk, hown, hts, hnk, hini, hK, hA, hsc⟩ := id hC
  simp only [zraw, List.mem_singleton, Prod.mk.injEq] at hj
  obtain ⟨rfl, rfl⟩ := hj
  have ht := ht.resolve_left (by simp [zte])
  simp only [zins, zaty] at h
  split at h
  next n st =>
    obtain ⟨hn2, hst⟩ := List.forall_mem_cons.mp hst
    obtain ⟨h1, h2, h3, h4, h⟩ := h
    have hsz := hW.2.2.2.1
    have hN1 : n.toNat ≤ 1000000 := by omega
    obtain ⟨hng, hcl⟩ := z_ge h1 h2
    refine va_newa (atype := .int) (ty := .int) (a0 := (n.toNat, .inl (fun _ => 0))) hX hB (hts _ (zTm ztb_arr.1 rfl)) rfl hK hW.1 hW.2.1 hW.2.2.1 hA (fun _ => rfl) hng hcl (by simp only [componentBytes]; omega) (by omega) (by omega) hd (fun q cA' H1 hK1 hP1 hD1 hS1 => ?_)
    have ec : cA' = cA 0 := Option.some.inj ((hK1.2 5 (cA', .int) rfl).2.symm.trans (hK.2 0 (cA 0, .int) rfl).2)
    subst ec
    have hgo : zgo (znw H (100) (n.toNat)) := zgo_nw hW.2.2.2 (Or.inr ⟨by omega, by omega, hN1⟩)
    have ew : zw cA (fun x => if x = zS H then q else ρ x) (znw H (100) (n.toNat)) = zw cA ρ H ++ [(q, zce cA (fun x => if x = zS H then q else ρ x) (znw H (100) (n.toNat)) (zS H))] := by
      have e1 := zw_push (cA := cA) (ρ := ρ) (ρ' := fun x => if x = zS H then q else ρ x) (H := H) (H' := znw H (100) (n.toNat)) hsz rfl zrx (fun b h1 h2 => zce_ext hW.2.2.2 h1 h2 zrx (by rw [zK_nw, if_neg (by omega)]) (by rw [zN_nw, if_neg (by omega)]) (fun k => by rw [zA_nw, if_neg (by omega)]) (fun k => by rw [zR_nw, if_neg (by omega)]))
      rw [e1]
      simp
    have ekz : zK (znw H (100) (n.toNat)) (zS H) = 100 := by rw [zK_nw, if_pos rfl]
    have enz : zN (znw H (100) (n.toNat)) (zS H) = n.toNat := by rw [zN_nw, if_pos rfl]
    have eaz : ∀ k, zA (znw H (100) (n.toNat)) (zS H) k = 0 := fun k => by rw [zA_nw, if_pos rfl]
    have erz : ∀ k, zR (znw H (100) (n.toNat)) (zS H) k = none := fun k => by rw [zR_nw, if_pos rfl]
    rw [zce_int ekz, enz] at ew
    simp only [eaz] at ew
    have ew := ew.trans (show _ = zw cA ρ H ++ [(q, Sum.inl (cA 0, (n.toNat, .inl (fun _ => 0))))] from rfl)
    rw [← ew] at hP1 hD1
    have e2 : Value.ref q :: st.map (zv ρ) = (zr (some (zS H)) :: st).map (zv (fun x => if x = zS H then q else ρ x)) := by
      rw [List.map_cons, zvs_ext zrx hst]
      show _ = Value.ref (if zS H = zS H then q else ρ (zS H)) :: _
      rw [if_pos rfl]
    rw [e2]
    exact ih (bc - 1) (bs - n.toNat) ls _ _ h l p e R s M args below meth c G cA A b (fun x => if x = zS H then q else ρ x) H1 locs (cells + 1) (slots + n.toNat) (pc + 2) lsm Z hC hR ht ⟨hP1, hD1, hS1, hgo⟩ (fun q => by show (if 0 = zS H then _ else _) = b; rw [if_neg (by omega)]; exact h0 q) (List.forall_mem_cons.mpr ⟨fun a ha => by cases ha; rw [zS_nw]; omega, fun v hv => zvo_mono (by rw [zS_nw]; omega) (hst v hv)⟩) (hls.ext zrx (by rw [zS_nw]; omega)) (by omega) (by omega) (fun r H' ρ' Hm' locs' cells' slots' pc' lsm' g1 g2 g3 g4 g5 g6 g7 => hZ r H' ρ' Hm' locs' cells' slots' pc' lsm' g1 g2 (fun a ha => (g3 a (by rw [zS_nw]; omega)).trans (zrx a ha)) (by rw [zS_nw] at g4; omega) (by omega) (by omega) g7)
  next => exact h.elim
theorem zq_newa_byte {xs : Nat → Int} {L d : Nat} {sc : Bool} {m : Nat} {Q : zQ} {J : zJt} {C : zCt} {k : zKo} {il : List Instr} {bc bs : Nat} {ls : zLs} {st : List zV} {H : zH} (ih : zIH xs L d sc m Q k il) (h : zins J C sc xs L Q (.newarray .byte) k bc bs ls st H) : zSN xs L d bc bs sc m (.newarray .byte :: il) ls st H Q := by
  intro l p e R s M args below meth c G cA A b ρ Hm locs cells slots pc lsm Z hC hR hk hW h0 hst hls hc1 hc2 hZ
  obtain ⟨j, len, hd, hj, hx, ht⟩ := zchk_cons hk (by intro q; cases q) (by intro t q; cases q)
  obtain ⟨hX, hB, hL2, hret, hlk, hown, hts, hnk, hini, hK, hA, hsc⟩ := id hC
  simp only [zraw, List.mem_singleton, Prod.mk.injEq] at hj
  obtain ⟨rfl, rfl⟩ := hj
  have ht := ht.resolve_left (by simp [zte])
  simp only [zins, zaty] at h
  split at h
  next n st =>
    obtain ⟨hn2, hst⟩ := List.forall_mem_cons.mp hst
    obtain ⟨h1, h2, h3, h4, h⟩ := h
    have hsz := hW.2.2.2.1
    have hN1 : n.toNat ≤ 1000000 := by omega
    obtain ⟨hng, hcl⟩ := z_ge h1 h2
    refine va_newa (atype := .byte) (ty := .byte) (a0 := (n.toNat, .inl (fun _ => 0))) hX hB (hts _ (zTm ztb_arr.2.1 rfl)) rfl hK hW.1 hW.2.1 hW.2.2.1 hA (fun _ => rfl) hng hcl (by simp only [componentBytes]; omega) (by omega) (by omega) hd (fun q cA' H1 hK1 hP1 hD1 hS1 => ?_)
    have ec : cA' = cA 1 := Option.some.inj ((hK1.2 5 (cA', .byte) rfl).2.symm.trans (hK.2 1 (cA 1, .byte) rfl).2)
    subst ec
    have hgo : zgo (znw H (101) (n.toNat)) := zgo_nw hW.2.2.2 (Or.inr ⟨by omega, by omega, hN1⟩)
    have ew : zw cA (fun x => if x = zS H then q else ρ x) (znw H (101) (n.toNat)) = zw cA ρ H ++ [(q, zce cA (fun x => if x = zS H then q else ρ x) (znw H (101) (n.toNat)) (zS H))] := by
      have e1 := zw_push (cA := cA) (ρ := ρ) (ρ' := fun x => if x = zS H then q else ρ x) (H := H) (H' := znw H (101) (n.toNat)) hsz rfl zrx (fun b h1 h2 => zce_ext hW.2.2.2 h1 h2 zrx (by rw [zK_nw, if_neg (by omega)]) (by rw [zN_nw, if_neg (by omega)]) (fun k => by rw [zA_nw, if_neg (by omega)]) (fun k => by rw [zR_nw, if_neg (by omega)]))
      rw [e1]
      simp
    have ekz : zK (znw H (101) (n.toNat)) (zS H) = 101 := by rw [zK_nw, if_pos rfl]
    have enz : zN (znw H (101) (n.toNat)) (zS H) = n.toNat := by rw [zN_nw, if_pos rfl]
    have eaz : ∀ k, zA (znw H (101) (n.toNat)) (zS H) k = 0 := fun k => by rw [zA_nw, if_pos rfl]
    have erz : ∀ k, zR (znw H (101) (n.toNat)) (zS H) k = none := fun k => by rw [zR_nw, if_pos rfl]
    rw [zce_byte ekz, enz] at ew
    simp only [eaz] at ew
    have ew := ew.trans (show _ = zw cA ρ H ++ [(q, Sum.inl (cA 1, (n.toNat, .inl (fun _ => 0))))] from rfl)
    rw [← ew] at hP1 hD1
    have e2 : Value.ref q :: st.map (zv ρ) = (zr (some (zS H)) :: st).map (zv (fun x => if x = zS H then q else ρ x)) := by
      rw [List.map_cons, zvs_ext zrx hst]
      show _ = Value.ref (if zS H = zS H then q else ρ (zS H)) :: _
      rw [if_pos rfl]
    rw [e2]
    exact ih (bc - 1) (bs - n.toNat) ls _ _ h l p e R s M args below meth c G cA A b (fun x => if x = zS H then q else ρ x) H1 locs (cells + 1) (slots + n.toNat) (pc + 2) lsm Z hC hR ht ⟨hP1, hD1, hS1, hgo⟩ (fun q => by show (if 0 = zS H then _ else _) = b; rw [if_neg (by omega)]; exact h0 q) (List.forall_mem_cons.mpr ⟨fun a ha => by cases ha; rw [zS_nw]; omega, fun v hv => zvo_mono (by rw [zS_nw]; omega) (hst v hv)⟩) (hls.ext zrx (by rw [zS_nw]; omega)) (by omega) (by omega) (fun r H' ρ' Hm' locs' cells' slots' pc' lsm' g1 g2 g3 g4 g5 g6 g7 => hZ r H' ρ' Hm' locs' cells' slots' pc' lsm' g1 g2 (fun a ha => (g3 a (by rw [zS_nw]; omega)).trans (zrx a ha)) (by rw [zS_nw] at g4; omega) (by omega) (by omega) g7)
  next => exact h.elim
theorem zq_newa_boolean {xs : Nat → Int} {L d : Nat} {sc : Bool} {m : Nat} {Q : zQ} {J : zJt} {C : zCt} {k : zKo} {il : List Instr} {bc bs : Nat} {ls : zLs} {st : List zV} {H : zH} (ih : zIH xs L d sc m Q k il) (h : zins J C sc xs L Q (.newarray .boolean) k bc bs ls st H) : zSN xs L d bc bs sc m (.newarray .boolean :: il) ls st H Q := by
  intro l p e R s M args below meth c G cA A b ρ Hm locs cells slots pc lsm Z hC hR hk hW h0 hst hls hc1 hc2 hZ
  obtain ⟨j, len, hd, hj, hx, ht⟩ := zchk_cons hk (by intro q; cases q) (by intro t q; cases q)
  obtain ⟨hX, hB, hL2, hret, hlk, hown, hts, hnk, hini, hK, hA, hsc⟩ := id hC
  simp only [zraw, List.mem_singleton, Prod.mk.injEq] at hj
  obtain ⟨rfl, rfl⟩ := hj
  have ht := ht.resolve_left (by simp [zte])
  simp only [zins, zaty] at h
  split at h
  next n st =>
    obtain ⟨hn2, hst⟩ := List.forall_mem_cons.mp hst
    obtain ⟨h1, h2, h3, h4, h⟩ := h
    have hsz := hW.2.2.2.1
    have hN1 : n.toNat ≤ 1000000 := by omega
    obtain ⟨hng, hcl⟩ := z_ge h1 h2
    refine va_newa (atype := .boolean) (ty := .boolean) (a0 := (n.toNat, .inl (fun _ => 0))) hX hB (hts _ (zTm ztb_arr.2.2.1 rfl)) rfl hK hW.1 hW.2.1 hW.2.2.1 hA (fun _ => rfl) hng hcl (by simp only [componentBytes]; omega) (by omega) (by omega) hd (fun q cA' H1 hK1 hP1 hD1 hS1 => ?_)
    have ec : cA' = cA 2 := Option.some.inj ((hK1.2 5 (cA', .boolean) rfl).2.symm.trans (hK.2 2 (cA 2, .boolean) rfl).2)
    subst ec
    have hgo : zgo (znw H (102) (n.toNat)) := zgo_nw hW.2.2.2 (Or.inr ⟨by omega, by omega, hN1⟩)
    have ew : zw cA (fun x => if x = zS H then q else ρ x) (znw H (102) (n.toNat)) = zw cA ρ H ++ [(q, zce cA (fun x => if x = zS H then q else ρ x) (znw H (102) (n.toNat)) (zS H))] := by
      have e1 := zw_push (cA := cA) (ρ := ρ) (ρ' := fun x => if x = zS H then q else ρ x) (H := H) (H' := znw H (102) (n.toNat)) hsz rfl zrx (fun b h1 h2 => zce_ext hW.2.2.2 h1 h2 zrx (by rw [zK_nw, if_neg (by omega)]) (by rw [zN_nw, if_neg (by omega)]) (fun k => by rw [zA_nw, if_neg (by omega)]) (fun k => by rw [zR_nw, if_neg (by omega)]))
      rw [e1]
      simp
    have ekz : zK (znw H (102) (n.toNat)) (zS H) = 102 := by rw [zK_nw, if_pos rfl]
    have enz : zN (znw H (102) (n.toNat)) (zS H) = n.toNat := by rw [zN_nw, if_pos rfl]
    have eaz : ∀ k, zA (znw H (102) (n.toNat)) (zS H) k = 0 := fun k => by rw [zA_nw, if_pos rfl]
    have erz : ∀ k, zR (znw H (102) (n.toNat)) (zS H) k = none := fun k => by rw [zR_nw, if_pos rfl]
    rw [zce_bool ekz, enz] at ew
    simp only [eaz] at ew
    have ew := ew.trans (show _ = zw cA ρ H ++ [(q, Sum.inl (cA 2, (n.toNat, .inl (fun _ => 0))))] from rfl)
    rw [← ew] at hP1 hD1
    have e2 : Value.ref q :: st.map (zv ρ) = (zr (some (zS H)) :: st).map (zv (fun x => if x = zS H then q else ρ x)) := by
      rw [List.map_cons, zvs_ext zrx hst]
      show _ = Value.ref (if zS H = zS H then q else ρ (zS H)) :: _
      rw [if_pos rfl]
    rw [e2]
    exact ih (bc - 1) (bs - n.toNat) ls _ _ h l p e R s M args below meth c G cA A b (fun x => if x = zS H then q else ρ x) H1 locs (cells + 1) (slots + n.toNat) (pc + 2) lsm Z hC hR ht ⟨hP1, hD1, hS1, hgo⟩ (fun q => by show (if 0 = zS H then _ else _) = b; rw [if_neg (by omega)]; exact h0 q) (List.forall_mem_cons.mpr ⟨fun a ha => by cases ha; rw [zS_nw]; omega, fun v hv => zvo_mono (by rw [zS_nw]; omega) (hst v hv)⟩) (hls.ext zrx (by rw [zS_nw]; omega)) (by omega) (by omega) (fun r H' ρ' Hm' locs' cells' slots' pc' lsm' g1 g2 g3 g4 g5 g6 g7 => hZ r H' ρ' Hm' locs' cells' slots' pc' lsm' g1 g2 (fun a ha => (g3 a (by rw [zS_nw]; omega)).trans (zrx a ha)) (by rw [zS_nw] at g4; omega) (by omega) (by omega) g7)
  next => exact h.elim
theorem zq_newa_long {xs : Nat → Int} {L d : Nat} {sc : Bool} {m : Nat} {Q : zQ} {J : zJt} {C : zCt} {k : zKo} {il : List Instr} {bc bs : Nat} {ls : zLs} {st : List zV} {H : zH} (ih : zIH xs L d sc m Q k il) (h : zins J C sc xs L Q (.newarray .long) k bc bs ls st H) : zSN xs L d bc bs sc m (.newarray .long :: il) ls st H Q := by
  intro l p e R s M args below meth c G cA A b ρ Hm locs cells slots pc lsm Z hC hR hk hW h0 hst hls hc1 hc2 hZ
  obtain ⟨j, len, hd, hj, hx, ht⟩ := zchk_cons hk (by intro q; cases q) (by intro t q; cases q)
  obtain ⟨hX, hB, hL2, hret, hlk, hown, hts, hnk, hini, hK, hA, hsc⟩ := id hC
  simp only [zraw, List.mem_singleton, Prod.mk.injEq] at hj
  obtain ⟨rfl, rfl⟩ := hj
  have ht := ht.resolve_left (by simp [zte])
  simp only [zins, zaty] at h
  split at h
  next n st =>
    obtain ⟨hn2, hst⟩ := List.forall_mem_cons.mp hst
    obtain ⟨h1, h2, h3, h4, h⟩ := h
    have hsz := hW.2.2.2.1
    have hN1 : n.toNat ≤ 1000000 := by omega
    obtain ⟨hng, hcl⟩ := z_ge h1 h2
    refine va_newa (atype := .long) (ty := .long) (a0 := (n.toNat, .inr (.inl (fun _ => 0)))) hX hB (hts _ (zTm ztb_arr.2.2.2.1 rfl)) rfl hK hW.1 hW.2.1 hW.2.2.1 hA (fun _ => rfl) hng hcl (by simp only [componentBytes]; omega) (by omega) (by omega) hd (fun q cA' H1 hK1 hP1 hD1 hS1 => ?_)
    have ec : cA' = cA 3 := Option.some.inj ((hK1.2 5 (cA', .long) rfl).2.symm.trans (hK.2 3 (cA 3, .long) rfl).2)
    subst ec
    have hgo : zgo (znw H (103) (n.toNat)) := zgo_nw hW.2.2.2 (Or.inr ⟨by omega, by omega, hN1⟩)
    have ew : zw cA (fun x => if x = zS H then q else ρ x) (znw H (103) (n.toNat)) = zw cA ρ H ++ [(q, zce cA (fun x => if x = zS H then q else ρ x) (znw H (103) (n.toNat)) (zS H))] := by
      have e1 := zw_push (cA := cA) (ρ := ρ) (ρ' := fun x => if x = zS H then q else ρ x) (H := H) (H' := znw H (103) (n.toNat)) hsz rfl zrx (fun b h1 h2 => zce_ext hW.2.2.2 h1 h2 zrx (by rw [zK_nw, if_neg (by omega)]) (by rw [zN_nw, if_neg (by omega)]) (fun k => by rw [zA_nw, if_neg (by omega)]) (fun k => by rw [zR_nw, if_neg (by omega)]))
      rw [e1]
      simp
    have ekz : zK (znw H (103) (n.toNat)) (zS H) = 103 := by rw [zK_nw, if_pos rfl]
    have enz : zN (znw H (103) (n.toNat)) (zS H) = n.toNat := by rw [zN_nw, if_pos rfl]
    have eaz : ∀ k, zA (znw H (103) (n.toNat)) (zS H) k = 0 := fun k => by rw [zA_nw, if_pos rfl]
    have erz : ∀ k, zR (znw H (103) (n.toNat)) (zS H) k = none := fun k => by rw [zR_nw, if_pos rfl]
    rw [zce_long ekz, enz] at ew
    simp only [eaz] at ew
    have ew := ew.trans (show _ = zw cA ρ H ++ [(q, Sum.inl (cA 3, (n.toNat, .inr (.inl (fun _ => 0)))))] from rfl)
    rw [← ew] at hP1 hD1
    have e2 : Value.ref q :: st.map (zv ρ) = (zr (some (zS H)) :: st).map (zv (fun x => if x = zS H then q else ρ x)) := by
      rw [List.map_cons, zvs_ext zrx hst]
      show _ = Value.ref (if zS H = zS H then q else ρ (zS H)) :: _
      rw [if_pos rfl]
    rw [e2]
    exact ih (bc - 1) (bs - n.toNat) ls _ _ h l p e R s M args below meth c G cA A b (fun x => if x = zS H then q else ρ x) H1 locs (cells + 1) (slots + n.toNat) (pc + 2) lsm Z hC hR ht ⟨hP1, hD1, hS1, hgo⟩ (fun q => by show (if 0 = zS H then _ else _) = b; rw [if_neg (by omega)]; exact h0 q) (List.forall_mem_cons.mpr ⟨fun a ha => by cases ha; rw [zS_nw]; omega, fun v hv => zvo_mono (by rw [zS_nw]; omega) (hst v hv)⟩) (hls.ext zrx (by rw [zS_nw]; omega)) (by omega) (by omega) (fun r H' ρ' Hm' locs' cells' slots' pc' lsm' g1 g2 g3 g4 g5 g6 g7 => hZ r H' ρ' Hm' locs' cells' slots' pc' lsm' g1 g2 (fun a ha => (g3 a (by rw [zS_nw]; omega)).trans (zrx a ha)) (by rw [zS_nw] at g4; omega) (by omega) (by omega) g7)
  next => exact h.elim
theorem zdef {ci k : Nat} {q : vw_C} (hq : zcl[ci]? = some q) (hk : k < q.2.2) {ty : FieldType} (hp : parseFieldDescriptor (q.2.1 k).2.2.1 = some ty) : defaultValue ty = if zft ci k = 2 then .null else if zft ci k = 1 then .long (Int64.ofInt 0) else .int (Int32.ofInt 0) := by
  rcases zft_lt hq hk with h | h | h | h
  · rw [zfs_0 hq hk h] at hp
    cases hp
    rw [h]
    rfl
  · rw [zfs_1 hq hk h] at hp
    cases hp
    rw [h]
    rfl
  · obtain ⟨ty', h1, -, h3⟩ := zfs_2 hq hk h
    rw [h1] at hp
    cases hp
    rw [h, h3]
    rfl
  · rw [zfs_3 hq hk h] at hp
    cases hp
    rw [h]
    rfl
theorem zq_new {xs : Nat → Int} {L d : Nat} {sc : Bool} {m : Nat} {Q : zQ} {J : zJt} {C : zCt} {k : zKo} {il : List Instr} {bc bs : Nat} {ls : zLs} {st : List zV} {H : zH} {n : Nat} (ih : zIH xs L d sc m Q k il) (h : zins J C sc xs L Q (.new n) k bc bs ls st H) : zSN xs L d bc bs sc m (.new n :: il) ls st H Q := by
  intro l p e R s M args below meth c G cA A b ρ Hm locs cells slots pc lsm Z hC hR hk hW h0 hst hls hc1 hc2 hZ
  obtain ⟨j, len, hd, hj, hx, ht⟩ := zchk_cons hk (by intro q; cases q) (by intro t q; cases q)
  obtain ⟨hX, hB, hL2, hret, hlk, hown, hts, hnk, hini, hK, hA, hsc⟩ := id hC
  simp only [zraw, List.mem_singleton, Prod.mk.injEq] at hj
  obtain ⟨rfl, rfl⟩ := hj
  have ht := ht.resolve_left (by simp [zte])
  simp only [zins] at h
  simp only [zext] at hx
  split at hx
  next C T N hq =>
    simp only [decide_eq_true_eq] at hx
    obtain ⟨h3, h4, h⟩ := h
    have hm := List.mem_of_getElem? hq
    have hc13 : n % 16 < 13 := (List.getElem?_eq_some_iff.mp hq).1
    have hnf : znf (n % 16) = N := znf_of hq
    have hsz := hW.2.2.2.1
    obtain ⟨ty0, hty0⟩ := zcl_ty _ hm
    rw [hnf] at h h4
    refine va_new (fs := (List.range N).map (fun k => if zft (n % 16) k = 2 then .null else if zft (n % 16) k = 1 then .long (Int64.ofInt 0) else .int (Int32.ofInt 0))) hX hB hts (zcl_in _ hm) ty0 hty0 hown (hts _ (zTm (List.mem_of_getElem? hx) rfl)) (hts _ (zTm (zcl_inst _ hm).1 rfl)) (hts _ (zTm (zcl_inst _ hm).2 rfl)) hK hW.1 hW.2.1 hW.2.2.1 hA hq (fun j hj => ?_) (by omega) (show slots + N ≤ R.slots by omega) hd (fun q H1 hP1 hD1 hS1 => ?_)
    · rw [zdef hq hj (hty0 j hj)]
      simp [vp_V, hj]
    have hgo : zgo (znw H (n % 16) (N)) := zgo_nw hW.2.2.2 (Or.inl ⟨hc13, hnf.symm⟩)
    have ew : zw cA (fun x => if x = zS H then q else ρ x) (znw H (n % 16) (N)) = zw cA ρ H ++ [(q, zce cA (fun x => if x = zS H then q else ρ x) (znw H (n % 16) (N)) (zS H))] := by
      have e1 := zw_push (cA := cA) (ρ := ρ) (ρ' := fun x => if x = zS H then q else ρ x) (H := H) (H' := znw H (n % 16) (N)) hsz rfl zrx (fun b h1 h2 => zce_ext hW.2.2.2 h1 h2 zrx (by rw [zK_nw, if_neg (by omega)]) (by rw [zN_nw, if_neg (by omega)]) (fun k => by rw [zA_nw, if_neg (by omega)]) (fun k => by rw [zR_nw, if_neg (by omega)]))
      rw [e1]
      simp
    have ekz : zK (znw H (n % 16) (N)) (zS H) = n % 16 := by rw [zK_nw, if_pos rfl]
    have enz : zN (znw H (n % 16) (N)) (zS H) = N := by rw [zN_nw, if_pos rfl]
    have eaz : ∀ k, zA (znw H (n % 16) (N)) (zS H) k = 0 := fun k => by rw [zA_nw, if_pos rfl]
    have erz : ∀ k, zR (znw H (n % 16) (N)) (zS H) k = none := fun k => by rw [zR_nw, if_pos rfl]
    rw [zce_obj (by rw [ekz]; exact hc13), enz, ekz] at ew
    have ef : (List.range N).map (zfv (fun x => if x = zS H then q else ρ x) (znw H (n % 16) N) (zS H)) = (List.range N).map (fun k => if zft (n % 16) k = 2 then .null else if zft (n % 16) k = 1 then .long (Int64.ofInt 0) else .int (Int32.ofInt 0)) := by
      apply List.map_congr_left
      intro k _
      unfold zfv
      rw [ekz, eaz, erz]
      rfl
    rw [ef] at ew
    rw [← ew] at hP1 hD1
    have e2 : Value.ref q :: st.map (zv ρ) = (zr (some (zS H)) :: st).map (zv (fun x => if x = zS H then q else ρ x)) := by
      rw [List.map_cons, zvs_ext zrx hst]
      show _ = Value.ref (if zS H = zS H then q else ρ (zS H)) :: _
      rw [if_pos rfl]
    rw [e2]
    exact ih (bc - 1) (bs - N) ls _ _ h l p e R s M args below meth c G cA A b (fun x => if x = zS H then q else ρ x) H1 locs (cells + 1) (slots + N) (pc + 3) lsm Z hC hR ht ⟨hP1, hD1, hS1, hgo⟩ (fun q => by show (if 0 = zS H then _ else _) = b; rw [if_neg (by omega)]; exact h0 q) (List.forall_mem_cons.mpr ⟨fun a ha => by cases ha; rw [zS_nw]; omega, fun v hv => zvo_mono (by rw [zS_nw]; omega) (hst v hv)⟩) (hls.ext zrx (by rw [zS_nw]; omega)) (by omega) (by omega) (fun r H' ρ' Hm' locs' cells' slots' pc' lsm' g1 g2 g3 g4 g5 g6 g7 => hZ r H' ρ' Hm' locs' cells' slots' pc' lsm' g1 g2 (fun a ha => (g3 a (by rw [zS_nw]; omega)).trans (zrx a ha)) (by rw [zS_nw] at g4; omega) (by omega) (by omega) g7)
  next => cases hx
theorem zq_objinit {xs : Nat → Int} {L d : Nat} {sc : Bool} {m : Nat} {Q : zQ} {J : zJt} {C : zCt} {k : zKo} {il : List Instr} {bc bs : Nat} {ls : zLs} {st : List zV} {H : zH} {n : Nat} (ih : zIH xs L d sc m Q k il) (h : zins J C sc xs L Q (.ret n) k bc bs ls st H) : zSN xs L d bc bs sc m (.ret n :: il) ls st H Q := by
  intro l p e R s M args below meth c G cA A b ρ Hm locs cells slots pc lsm Z hC hR hk hW h0 hst hls hc1 hc2 hZ
  obtain ⟨j, len, hd, hj, hx, ht⟩ := zchk_cons hk (by intro q; cases q) (by intro t q; cases q)
  obtain ⟨hX, hB, hL2, hret, hlk, hown, hts, hnk, hini, hK, hA, hsc⟩ := id hC
  simp only [zraw, List.mem_singleton, Prod.mk.injEq] at hj
  obtain ⟨rfl, rfl⟩ := hj
  have ht := ht.resolve_left (by simp [zte])
  simp only [zins] at h
  simp only [zext, decide_eq_true_eq] at hx
  split at h
  next a st =>
    obtain ⟨ha, hst⟩ := List.forall_mem_cons.mp hst
    obtain ⟨h1, h⟩ := h
    refine W.objInit hX hB hown (hts _ (zTm (List.mem_of_getElem? hx) rfl)) (hts _ (zTm ztb_obj.1 rfl)) (hts _ (zTm ztb_obj.2.1 rfl)) rfl (hls.2.1.trans hL2.symm) rfl hd ?_ ?_ ?_
    · exact Nat.le_trans (by omega) hR.1
    · have := zcats ρ st
      have hr2 := hR.2
      show 0 + _ + 12 ≤ _
      omega
    · exact ih bc bs ls _ H h l p e R s M args below meth c G cA A b ρ Hm locs cells slots (pc + 3) lsm Z hC hR ht hW h0 hst hls hc1 hc2 hZ
  next => exact h.elim
theorem zq_mmax {xs : Nat → Int} {L d : Nat} {sc : Bool} {m : Nat} {Q : zQ} {J : zJt} {C : zCt} {k : zKo} {il : List Instr} {bc bs : Nat} {ls : zLs} {st : List zV} {H : zH} {n0 : Nat} (ih : zIH xs L d sc m Q k il) (h : zins J C sc xs L Q (.fload n0) k bc bs ls st H) : zSN xs L d bc bs sc m (.fload n0 :: il) ls st H Q := by
  intro l p e R s M args below meth c G cA A b ρ Hm locs cells slots pc lsm Z hC hR hk hW h0 hst hls hc1 hc2 hZ
  obtain ⟨j, len, hd, hj, hx, ht⟩ := zchk_cons hk (by intro q; cases q) (by intro t q; cases q)
  obtain ⟨hX, hB, hL2, hret, hlk, hown, hts, hnk, hini, hK, hA, hsc⟩ := id hC
  simp only [zraw, List.mem_singleton, Prod.mk.injEq] at hj
  obtain ⟨rfl, rfl⟩ := hj
  have ht := ht.resolve_left (by simp [zte])
  simp only [zins] at h
  simp only [zext, decide_eq_true_eq] at hx
  split at h
  next y x st =>
    obtain ⟨hy, hst⟩ := List.forall_mem_cons.mp hst
    obtain ⟨hx2, hst⟩ := List.forall_mem_cons.mp hst
    obtain ⟨h1, h⟩ := h
    have hcs := zcats ρ st
    have hr2 := hR.2
    refine va_mmax hX hB (hL2.trans hls.2.1.symm) hown (hts _ (zTm (List.mem_of_getElem? hx) rfl)) (hts _ (zTm ztb_math.1 rfl)) (hts _ (zTm ztb_math.2.2.2.1 rfl)) (hts _ (zTm ztb_math.2.2.2.2.1 rfl)) (Nat.le_trans (by omega) hR.1) (by omega) (by omega) (by omega) hd ?_
    have ev : (if Int32.ofInt x < Int32.ofInt y then Int32.ofInt y else Int32.ofInt x) = Int32.ofInt (if x < y then y else x) := by
      simp only [z32_lt hx2 hy]
      split <;> rfl
    rw [ev]
    exact ih bc bs ls _ H h l p e R s M args below meth c G cA A b ρ Hm locs cells slots (pc + 3) lsm Z hC hR ht hW h0 (List.forall_mem_cons.mpr ⟨(by split <;> assumption), hst⟩) hls hc1 hc2 hZ
  next => exact h.elim
theorem zq_mmin {xs : Nat → Int} {L d : Nat} {sc : Bool} {m : Nat} {Q : zQ} {J : zJt} {C : zCt} {k : zKo} {il : List Instr} {bc bs : Nat} {ls : zLs} {st : List zV} {H : zH} {n0 : Nat} (ih : zIH xs L d sc m Q k il) (h : zins J C sc xs L Q (.dload n0) k bc bs ls st H) : zSN xs L d bc bs sc m (.dload n0 :: il) ls st H Q := by
  intro l p e R s M args below meth c G cA A b ρ Hm locs cells slots pc lsm Z hC hR hk hW h0 hst hls hc1 hc2 hZ
  obtain ⟨j, len, hd, hj, hx, ht⟩ := zchk_cons hk (by intro q; cases q) (by intro t q; cases q)
  obtain ⟨hX, hB, hL2, hret, hlk, hown, hts, hnk, hini, hK, hA, hsc⟩ := id hC
  simp only [zraw, List.mem_singleton, Prod.mk.injEq] at hj
  obtain ⟨rfl, rfl⟩ := hj
  have ht := ht.resolve_left (by simp [zte])
  simp only [zins] at h
  simp only [zext, decide_eq_true_eq] at hx
  split at h
  next y x st =>
    obtain ⟨hy, hst⟩ := List.forall_mem_cons.mp hst
    obtain ⟨hx2, hst⟩ := List.forall_mem_cons.mp hst
    obtain ⟨h1, h⟩ := h
    have hcs := zcats ρ st
    have hr2 := hR.2
    refine va_mmin hX hB (hL2.trans hls.2.1.symm) hown (hts _ (zTm (List.mem_of_getElem? hx) rfl)) (hts _ (zTm ztb_math.2.1 rfl)) (hts _ (zTm ztb_math.2.2.2.1 rfl)) (hts _ (zTm ztb_math.2.2.2.2.2.1 rfl)) (Nat.le_trans (by omega) hR.1) (by omega) (by omega) (by omega) hd ?_
    have ev : (if Int32.ofInt y < Int32.ofInt x then Int32.ofInt y else Int32.ofInt x) = Int32.ofInt (if y < x then y else x) := by
      simp only [z32_lt hy hx2]
      split <;> rfl
    rw [ev]
    exact ih bc bs ls _ H h l p e R s M args below meth c G cA A b ρ Hm locs cells slots (pc + 3) lsm Z hC hR ht hW h0 (List.forall_mem_cons.mpr ⟨(by split <;> assumption), hst⟩) hls hc1 hc2 hZ
  next => exact h.elim
theorem zq_mminl {xs : Nat → Int} {L d : Nat} {sc : Bool} {m : Nat} {Q : zQ} {J : zJt} {C : zCt} {k : zKo} {il : List Instr} {bc bs : Nat} {ls : zLs} {st : List zV} {H : zH} {n0 : Int} (ih : zIH xs L d sc m Q k il) (h : zins J C sc xs L Q (.bipush n0) k bc bs ls st H) : zSN xs L d bc bs sc m (.bipush n0 :: il) ls st H Q := by
  intro l p e R s M args below meth c G cA A b ρ Hm locs cells slots pc lsm Z hC hR hk hW h0 hst hls hc1 hc2 hZ
  obtain ⟨j, len, hd, hj, hx, ht⟩ := zchk_cons hk (by intro q; cases q) (by intro t q; cases q)
  obtain ⟨hX, hB, hL2, hret, hlk, hown, hts, hnk, hini, hK, hA, hsc⟩ := id hC
  simp only [zraw, List.mem_singleton, Prod.mk.injEq] at hj
  obtain ⟨rfl, rfl⟩ := hj
  have ht := ht.resolve_left (by simp [zte])
  simp only [zins] at h
  simp only [zext, decide_eq_true_eq] at hx
  split at h
  next y x st =>
    obtain ⟨hy, hst⟩ := List.forall_mem_cons.mp hst
    obtain ⟨hx2, hst⟩ := List.forall_mem_cons.mp hst
    obtain ⟨h1, h⟩ := h
    have hcs := zcats ρ st
    have hr2 := hR.2
    refine va_mmin_long hX hB (hL2.trans hls.2.1.symm) hown (hts _ (zTm (List.mem_of_getElem? hx) rfl)) (hts _ (zTm ztb_math.2.2.1 rfl)) (hts _ (zTm ztb_math.2.2.2.1 rfl)) (hts _ (zTm ztb_math.2.2.2.2.2.2 rfl)) (Nat.le_trans (by omega) hR.1) (by omega) (by omega) (by omega) hd ?_
    have ev : (if Int64.ofInt y < Int64.ofInt x then Int64.ofInt y else Int64.ofInt x) = Int64.ofInt (if y < x then y else x) := by
      simp only [z64_lt hy hx2]
      split <;> rfl
    rw [ev]
    exact ih bc bs ls _ H h l p e R s M args below meth c G cA A b ρ Hm locs cells slots (pc + 3) lsm Z hC hR ht hW h0 (List.forall_mem_cons.mpr ⟨(by split <;> assumption), hst⟩) hls hc1 hc2 hZ
  next => exact h.elim
theorem zq_cpyi {xs : Nat → Int} {L d : Nat} {sc : Bool} {m : Nat} {Q : zQ} {J : zJt} {C : zCt} {k : zKo} {il : List Instr} {bc bs : Nat} {ls : zLs} {st : List zV} {H : zH} {n0 : Nat} (ih : zIH xs L d sc m Q k il) (h : zins J C sc xs L Q (.dstore n0) k bc bs ls st H) : zSN xs L d bc bs sc m (.dstore n0 :: il) ls st H Q := by
  intro l p e R s M args below meth c G cA A b ρ Hm locs cells slots pc lsm Z hC hR hk hW h0 hst hls hc1 hc2 hZ
  obtain ⟨j, len, hd, hj, hx, ht⟩ := zchk_cons hk (by intro q; cases q) (by intro t q; cases q)
  obtain ⟨hX, hB, hL2, hret, hlk, hown, hts, hnk, hini, hK, hA, hsc⟩ := id hC
  simp only [zraw, List.mem_singleton, Prod.mk.injEq] at hj
  obtain ⟨rfl, rfl⟩ := hj
  have ht := ht.resolve_left (by simp [zte])
  simp only [zins] at h
  simp only [zext, decide_eq_true_eq] at hx
  split at h
  next n dp bb sp aa st =>
    obtain ⟨hn2, hst⟩ := List.forall_mem_cons.mp hst
    obtain ⟨hd2, hst⟩ := List.forall_mem_cons.mp hst
    obtain ⟨hb2, hst⟩ := List.forall_mem_cons.mp hst
    obtain ⟨hs2, hst⟩ := List.forall_mem_cons.mp hst
    obtain ⟨ha2, hst⟩ := List.forall_mem_cons.mp hst
    obtain ⟨hka, hkb, h1, h2, h3, h4, h5, h6, h⟩ := h
    have hal := ha2 aa rfl
    have hbl := hb2 bb rfl
    have ha1 := zgo_lt hW.2.2.2 hal (by omega)
    have hb1 := zgo_lt hW.2.2.2 hbl (by omega)
    have hNa := zsz hW.2.2.2 ha1 hal (by omega)
    have hNb := zsz hW.2.2.2 hb1 hbl (by omega)
    obtain ⟨gs1, gs2⟩ := z_ge h1 (by omega)
    obtain ⟨gd1, gd2⟩ := z_ge h2 (by omega)
    obtain ⟨gn1, gn2⟩ := z_ge h3 (by omega)
    have hea := zw_at (cA := cA) (ρ := ρ) ha1 hal
    have heb := zw_at (cA := cA) (ρ := ρ) hb1 hbl
    rw [zce_int hka] at hea
    rw [zce_int hkb] at heb
    have ew : zw cA ρ (zcp H aa sp.toNat bb dp.toNat n.toNat) = (zw cA ρ H).set (bb - 1) (ρ bb, .inl (cA 0, zN H bb, .inl (va_cpy (fun j => Int32.ofInt (zA H aa j)) (fun j => Int32.ofInt (zA H bb j)) sp.toNat dp.toNat n.toNat))) := by
      have ef : (fun j => Int32.ofInt (zA (zcp H aa sp.toNat bb dp.toNat n.toNat) bb j)) = va_cpy (fun j => Int32.ofInt (zA H aa j)) (fun j => Int32.ofInt (zA H bb j)) sp.toNat dp.toNat n.toNat := by
        funext j
        rw [zA_cp, zif rfl]
        unfold va_cpy
        split <;> rfl
      rw [zw_set (H := H) (H' := zcp H aa sp.toNat bb dp.toNat n.toNat) hb1 hbl rfl (fun b hb => zce_cp hb), zce_int (show zK (zcp H aa sp.toNat bb dp.toNat n.toNat) bb = 100 from hkb), ef, zN_cp]
    have hgo : zgo (zcp H aa sp.toNat bb dp.toNat n.toNat) := zgo_cp hW.2.2.2 ha1 hal (by rw [hka, hkb]) (by omega) (by omega)
    refine va_copyi hX hB (hL2.trans hls.2.1.symm) hown (hts _ (zTm (List.mem_of_getElem? hx) rfl)) (hts _ (zTm ztb_obj.2.2.1 rfl)) (hts _ (zTm ztb_obj.2.2.2.1 rfl)) (hts _ (zTm ztb_obj.2.2.2.2 rfl)) hK hW.1 hW.2.1 hW.2.2.1 (aa - 1) (bb - 1) 0 0 hea heb rfl rfl rfl gs1 gd1 gn1 (by rw [gs2, gn2]; omega) (by rw [gd2, gn2]; omega) (fun i _ => rfl) (Nat.le_trans (by omega) hR.1) ?_ hd (fun H1 locs1 hP1 hD1 hS1 => ?_)
    · have := zcats ρ st
      have hr2 := hR.2
      rw [zcpw]
      omega
    rw [gs2, gd2, gn2, ← ew] at hP1 hD1
    exact ih bc bs ls _ _ h l p e R s M args below meth c G cA A b ρ H1 locs1 cells slots (pc + 3) lsm Z hC hR ht ⟨hP1, hD1, hS1, hgo⟩ h0 hst hls hc1 hc2 hZ
  next => exact h.elim
theorem zq_cpyl {xs : Nat → Int} {L d : Nat} {sc : Bool} {m : Nat} {Q : zQ} {J : zJt} {C : zCt} {k : zKo} {il : List Instr} {bc bs : Nat} {ls : zLs} {st : List zV} {H : zH} {n0 : Nat} (ih : zIH xs L d sc m Q k il) (h : zins J C sc xs L Q (.fstore n0) k bc bs ls st H) : zSN xs L d bc bs sc m (.fstore n0 :: il) ls st H Q := by
  intro l p e R s M args below meth c G cA A b ρ Hm locs cells slots pc lsm Z hC hR hk hW h0 hst hls hc1 hc2 hZ
  obtain ⟨j, len, hd, hj, hx, ht⟩ := zchk_cons hk (by intro q; cases q) (by intro t q; cases q)
  obtain ⟨hX, hB, hL2, hret, hlk, hown, hts, hnk, hini, hK, hA, hsc⟩ := id hC
  simp only [zraw, List.mem_singleton, Prod.mk.injEq] at hj
  obtain ⟨rfl, rfl⟩ := hj
  have ht := ht.resolve_left (by simp [zte])
  simp only [zins] at h
  simp only [zext, decide_eq_true_eq] at hx
  split at h
  next n dp bb sp aa st =>
    obtain ⟨hn2, hst⟩ := List.forall_mem_cons.mp hst
    obtain ⟨hd2, hst⟩ := List.forall_mem_cons.mp hst
    obtain ⟨hb2, hst⟩ := List.forall_mem_cons.mp hst
    obtain ⟨hs2, hst⟩ := List.forall_mem_cons.mp hst
    obtain ⟨ha2, hst⟩ := List.forall_mem_cons.mp hst
    obtain ⟨hka, hkb, h1, h2, h3, h4, h5, h6, h⟩ := h
    have hal := ha2 aa rfl
    have hbl := hb2 bb rfl
    have ha1 := zgo_lt hW.2.2.2 hal (by omega)
    have hb1 := zgo_lt hW.2.2.2 hbl (by omega)
    have hNa := zsz hW.2.2.2 ha1 hal (by omega)
    have hNb := zsz hW.2.2.2 hb1 hbl (by omega)
    obtain ⟨gs1, gs2⟩ := z_ge h1 (by omega)
    obtain ⟨gd1, gd2⟩ := z_ge h2 (by omega)
    obtain ⟨gn1, gn2⟩ := z_ge h3 (by omega)
    have hea := zw_at (cA := cA) (ρ := ρ) ha1 hal
    have heb := zw_at (cA := cA) (ρ := ρ) hb1 hbl
    rw [zce_long hka] at hea
    rw [zce_long hkb] at heb
    have ew : zw cA ρ (zcp H aa sp.toNat bb dp.toNat n.toNat) = (zw cA ρ H).set (bb - 1) (ρ bb, .inl (cA 3, zN H bb, .inr (.inl (va_cpy (fun j => Int64.ofInt (zA H aa j)) (fun j => Int64.ofInt (zA H bb j)) sp.toNat dp.toNat n.toNat)))) := by
      have ef : (fun j => Int64.ofInt (zA (zcp H aa sp.toNat bb dp.toNat n.toNat) bb j)) = va_cpy (fun j => Int64.ofInt (zA H aa j)) (fun j => Int64.ofInt (zA H bb j)) sp.toNat dp.toNat n.toNat := by
        funext j
        rw [zA_cp, zif rfl]
        unfold va_cpy
        split <;> rfl
      rw [zw_set (H := H) (H' := zcp H aa sp.toNat bb dp.toNat n.toNat) hb1 hbl rfl (fun b hb => zce_cp hb), zce_long (show zK (zcp H aa sp.toNat bb dp.toNat n.toNat) bb = 103 from hkb), ef, zN_cp]
    have hgo : zgo (zcp H aa sp.toNat bb dp.toNat n.toNat) := zgo_cp hW.2.2.2 ha1 hal (by rw [hka, hkb]) (by omega) (by omega)
    refine va_copyl hX hB (hL2.trans hls.2.1.symm) hown (hts _ (zTm (List.mem_of_getElem? hx) rfl)) (hts _ (zTm ztb_obj.2.2.1 rfl)) (hts _ (zTm ztb_obj.2.2.2.1 rfl)) (hts _ (zTm ztb_obj.2.2.2.2 rfl)) hK hW.1 hW.2.1 hW.2.2.1 (aa - 1) (bb - 1) 3 3 hea heb rfl rfl rfl gs1 gd1 gn1 (by rw [gs2, gn2]; omega) (by rw [gd2, gn2]; omega) (fun i _ => rfl) (Nat.le_trans (by omega) hR.1) ?_ hd (fun H1 locs1 hP1 hD1 hS1 => ?_)
    · have := zcats ρ st
      have hr2 := hR.2
      rw [zcpw]
      omega
    rw [gs2, gd2, gn2, ← ew] at hP1 hD1
    exact ih bc bs ls _ _ h l p e R s M args below meth c G cA A b ρ H1 locs1 cells slots (pc + 3) lsm Z hC hR ht ⟨hP1, hD1, hS1, hgo⟩ h0 hst hls hc1 hc2 hZ
  next => exact h.elim
