theorem zmgE {S T : Nat → Nat → Bool} {H G : zH} (h : zmg S T H G) {a : Nat} (hs : ∀ j, S a j = false) : zA G a = zA H a := funext (fun j => h.2.2.2 a j (hs j))
theorem iMS_A {H G : zH} (h1 : zA G 106 18 = zA H 106 18) (h2 : zA G 119 = zA H 119) (h3 : zA G 120 = zA H 120) (h : iMS H) : iMS G := by
  unfold iMS zMS at *
  rw [h1, h2, h3]
  exact h
/-- the weights are small -/
def iWe (H : zH) : Prop := ∀ t : Nat, t < 7 → 0 ≤ zA H 33 t ∧ zA H 33 t ≤ 1000000
theorem iLe_md {S : Nat → Nat → Bool} {H G : zH} (hm : zmd S H G) (h5 : S 29 5 = false) (h : ∀ j, S 32 j = false ∧ S 65 j = false ∧ S 66 j = false ∧ S 68 j = false ∧ S 69 j = false) (hI : iLe H) : iLe G := by
  obtain ⟨e, ⟨a1, a2, a3, a4⟩, hz, hR⟩ := hI
  refine ⟨e, ⟨a1, (hm.2.2.1 29 2).trans a2, (hm.2.2.1 29 3).trans a3, fun k hk => ?_⟩, fun i hi => ?_, ?_⟩
  · rw [hm.2.2.1, hm.2.2.1]; exact a4 k hk
  · rw [hm.2.2.2 32 i (h i).1]; exact hz i hi
  · rw [hm.2.2.2 29 5 h5]
    rcases hR with hR | ⟨r, r1, r2⟩
    · exact Or.inl hR
    · refine Or.inr ⟨r, r1, ?_⟩
      have he : e = 0 ∨ e = 1 := by omega
      rcases he with rfl | rfl
      · exact zHs_mg (T := fun _ _ => false) (zmg_d hm) (fun j => (h j).2.2.1) (fun j => (h j).2.1) r2
      · exact zHs_mg (T := fun _ _ => false) (zmg_d hm) (fun j => (h j).2.2.2.2) (fun j => (h j).2.2.2.1) r2
theorem zOr_w {P : Nat → Prop} {w w' : Nat → Int} {m : Nat} {o : Nat → Nat} (h : zOr P w m o) (e : ∀ t : Nat, P t → w t = w' t) : zOr P w' m o := by
  refine ⟨h.1, h.2.1, fun r r' hr hr' => ?_⟩
  have := h.2.2 r r' hr hr'
  unfold zbe at *
  rw [← e _ (h.1 r (by omega)), ← e _ (h.1 r' hr')]
  exact this
theorem zPp_n : ∀ n : Nat, n ≤ 7 → ∀ t : Nat, (t < 7 → ((2 ^ n - 1) / 2 ^ t % 2 = 1 ↔ t < n)) := by decide +kernel
theorem zpk_n : ∀ n : Nat, n ≤ 7 → zpk (2 ^ n - 1) 7 = n ∧ 2 ^ n - 1 < 128 ∧ zshl 1 (n : Int) = ((2 ^ n : Nat) : Int) ∧ 1 ≤ 2 ^ n ∧ 2 ^ n ≤ 128 := by decide +kernel
theorem zPp_e {n : Nat} (hn : n ≤ 7) (t : Nat) : zPp (2 ^ n - 1) t ↔ t < n := by
  unfold zPp
  constructor
  · rintro ⟨a, b⟩; exact (zPp_n n hn t a).mp b
  · intro a; exact ⟨by omega, (zPp_n n hn t (by omega)).mpr a⟩
/-- both have the same whole -/
theorem zWho {H : zH} (hF : iF H) : zFo H (fun k => (zA H 9 k).toNat) ∧ zA H 6 3 = ((zA H 6 3).toNat : Int) ∧ (zA H 6 3).toNat < 256 ∧ ∀ x : Nat, zRS (zRu (zA H 6 3).toNat (fun k => (zA H 9 k).toNat) 4) x ↔ zSk (fun k => zA H 111 k ≠ 0) (zTr (fun c k => zA H 112 (8 * c + k) ≠ 0) 4) 4 x := by
  obtain ⟨⟨f1, f2⟩, f3⟩ := hF
  refine ⟨fun k hk => ?_, by omega, by omega, fun x => zRS_e (fun k hk => ?_) (fun c k hc hk => ?_) x⟩
  · have := (f3 k hk).1
    show zA H 9 k = ((zA H 9 k).toNat : Int) ∧ (zA H 9 k).toNat < 256
    exact ⟨by omega, by omega⟩
  · rw [f2 k (by omega)]
    unfold zbit
    omega
  · rw [(f3 c (by omega)).2 k (by omega)]
    unfold zbit
    omega
set_option maxRecDepth 100000 in
theorem zl_tkl {xs : Nat → Int} {L d b1 b2 : Nat} {H0 : zH} {Q : zQ} {n : Nat} (hL0 : zLay H0) (hn : zA H0 106 11 = n) (hn4 : n ≤ 40) (h : Q 0 (zMW H0 127 0 7 (fun t => if t < n then zA H0 115 t else 0))) : ∀ (kk : Nat) (t : Nat), 7 - t = kk → (t ≤ 7) → zEt xs L d b1 b2 false 231 2 [some (zr (some 106)), some (zi t)] [] (zMW H0 127 0 t (fun t => if t < n then zA H0 115 t else 0)) Q := by
  intro kk
  induction kk using Nat.strongRecOn with
  | ind kk ih =>
    intro t hkk ht
    refine zgo_at [2] 8 ?_
    try simp -implicitDefEqProofs only [zgn_0, zgn_s, zct_0, zct_s, Nat.reduceEqDiff, Nat.reduceBEq, Nat.reduceAdd, Nat.reduceSub, Nat.reduceMul, Int.reduceAdd, Int.reduceSub, Int.reduceMul, Int.reduceNeg, Int.reduceLT, Int.reduceLE, Int.reduceEq, Nat.zero_add, true_and, and_true, false_and, and_false, true_imp_iff, false_imp_iff, not_true_eq_false, not_false_eq_true, if_true, if_false, Bool.false_eq_true, ite_true, ite_false, reduceIte, eq_self, Int.toNat_natCast, zst_0, zst_1, zst_2, zst_3, zst_4, true_or, or_true, or_false, false_or, ze_231_0, zB_231_0, ze_231_2, zB_231_2, ze_231_30, zB_231_30, ze_231_31, zB_231_31, ze_231_38, zB_231_38, zbr_t, zbr_f, zrun_c, zmI_s, zmL_s, zmR_s, zgt_0, zgt_s, zln_0, zln_s, zs1_0, zs1_1i, zs1_1r, zs1_1n, zs1_1l, zs1_s, zs2_0, zs2_1i, zs2_1r, zs2_1n, zs2_1l, zs2_s, zcn_eq, zcn_ne, zcn_lt, zcn_ge, zcn_gt, zcn_le, zpu_0, zpu_1, zpu_2, zx_iconst, zx_lconst, zx_ldc, zx_ldc2, zx_null, zx_iload, zx_lload, zx_aload, zx_istore, zx_lstore, zx_astore, zx_iinc, zx_iadd, zx_isub, zx_imul, zx_idiv, zx_irem, zx_iand, zx_ior, zx_ixor, zx_ishl, zx_ishr, zx_iushr, zx_i2b, zx_i2l, zx_l2i, zx_ladd, zx_lmul, zx_ldiv, zx_lrem, zx_land, zx_lor, zx_lshl, zx_lshr, zx_lcmp, zx_dupi, zx_dupr, zx_dup2l, zx_dup2i, zx_pop, zx_ifc, zx_icmp, zx_ifnullN, zx_ifnullS, zx_ifnonN, zx_ifnonS, zx_goto, zx_gotow, zx_switch, zx_iaload, zx_baload, zx_laload, zx_aaload, zx_iastore, zx_bastore, zx_lastore, zx_aastore, zx_alen, zx_newarray, zx_anewarray, zx_new, zx_getI, zx_getL, zx_getR, zx_putI, zx_putZ, zx_putL, zx_putR, zx_callS, zx_callV, zx_objinit, zx_cpyi, zx_cpyl, zx_mmax, zx_mmin, zx_mminl, zx_ireturn, zx_areturn, zx_lreturn, zx_return, zcs_0, zcs_1, zcv_1, zcs_2, zcv_2, zcs_3, zcv_3, zcs_4, zcv_4, zcs_5, zcv_5, zcs_6, zcv_6, zcs_7, zcv_7, Int.reduceToNat, Nat.reduceDiv, Nat.reduceMod, zJ, zC, zK_wA, zN_wA, zR_wA, zS_wA, zA_wA, zK_wR, zN_wR, zR_wR, zS_wR, zA_wR, zK_cp, zN_cp, zR_cp, zS_cp, zA_cp, zK_mp, zN_mp, zR_mp, zS_mp, zA_mp, zfa, zfmm, zfa_1, zfb_1, zfa_2, zfb_2, zfa_3, zfb_3, zfa_4, zfb_4, zfa_5, zfb_5, zfa_6, zfb_6, zfa_7, zfb_7, zfa_8, zfb_8, zfa_9, zfb_9, zfa_10, zfb_10, zfa_12, zfb_12, zfa_20, zfb_20, zfa_21, zfb_21, zfa_30, zfb_30, zfa_48, zfb_48, zfa_60, zfb_60, zfa_61, zfb_61, zfa_65, zfb_65, zfa_97, zfb_97, zfa_100, zfb_100, zfa_120, zfb_120, zfa_124, zfb_124, zfa_500, zfb_500, zfa_792, zfb_792, zfa_2989, zfb_2989, zfm_2, zfn_2, zfm_3, zfn_3, zfm_4, zfn_4, zfm_6, zfn_6, zfm_7, zfn_7, zfm_8, zfn_8, zfm_12, zfn_12, zfm_49, zfn_49, zfm_60, zfn_60, zfm_61, zfn_61, zfm_792, zfn_792, zfm_2989, zfn_2989, Int.zero_add, Int.add_zero, Int.zero_mul, Int.mul_zero, Int.one_mul, Int.mul_one, lk_106 hL0, lr_106_12 hL0, lk_115 hL0, ln_115 hL0, lr_106_25 hL0, lk_127 hL0, ln_127 hL0, hn]
    refine zbr_i (fun q => ?_) (fun q => ?_)
    · have e9 : t = 7 := by omega
      subst e9
      exact h
    · have e1 := zMW_s H0 127 0 t (fun t => if t < n then zA H0 115 t else 0)
      rw [Nat.zero_add] at e1
      refine zbr_i (fun q1 => ?_) (fun q1 => ?_)
      · repeat (with_reducible refine And.intro ?_ ?_; · first | omega | (simp only [z32, z64]; omega))
        rw [show (if t < n then zA H0 115 t else 0) = 0 from if_neg (by omega)] at e1
        rw [e1]
        exact ih _ (by omega) (t + 1) rfl (by omega)
      · repeat (with_reducible refine And.intro ?_ ?_; · first | omega | (simp only [z32, z64]; omega))
        rw [show (if t < n then zA H0 115 t else 0) = zA H0 115 t from if_pos (by omega)] at e1
        rw [e1]
        exact ih _ (by omega) (t + 1) rfl (by omega)
set_option maxRecDepth 100000 in
theorem zc_takeLikes {xs : Nat → Int} {L d b1 b2 : Nat} {H0 : zH} {Q : zQ} {n : Nat} (hL0 : zLay H0) (hn : zA H0 106 11 = n) (hn4 : n ≤ 40) (h : ∀ G : zH, zmd (zin [127] []) H0 G → (∀ t : Nat, t < 7 → zA G 127 t = if t < n then zA H0 115 t else 0) → Q 0 G) : zEm xs L d b1 b2 231 [zr (some 106)] H0 Q := by
  refine zem_231 (zgo_at [2] 4 ?_)
  try simp -implicitDefEqProofs only [zgn_0, zgn_s, zct_0, zct_s, Nat.reduceEqDiff, Nat.reduceBEq, Nat.reduceAdd, Nat.reduceSub, Nat.reduceMul, Int.reduceAdd, Int.reduceSub, Int.reduceMul, Int.reduceNeg, Int.reduceLT, Int.reduceLE, Int.reduceEq, Nat.zero_add, true_and, and_true, false_and, and_false, true_imp_iff, false_imp_iff, not_true_eq_false, not_false_eq_true, if_true, if_false, Bool.false_eq_true, ite_true, ite_false, reduceIte, eq_self, Int.toNat_natCast, zst_0, zst_1, zst_2, zst_3, zst_4, true_or, or_true, or_false, false_or, ze_231_0, zB_231_0, ze_231_2, zB_231_2, ze_231_30, zB_231_30, ze_231_31, zB_231_31, ze_231_38, zB_231_38, zbr_t, zbr_f, zrun_c, zmI_s, zmL_s, zmR_s, zgt_0, zgt_s, zln_0, zln_s, zs1_0, zs1_1i, zs1_1r, zs1_1n, zs1_1l, zs1_s, zs2_0, zs2_1i, zs2_1r, zs2_1n, zs2_1l, zs2_s, zcn_eq, zcn_ne, zcn_lt, zcn_ge, zcn_gt, zcn_le, zpu_0, zpu_1, zpu_2, zx_iconst, zx_lconst, zx_ldc, zx_ldc2, zx_null, zx_iload, zx_lload, zx_aload, zx_istore, zx_lstore, zx_astore, zx_iinc, zx_iadd, zx_isub, zx_imul, zx_idiv, zx_irem, zx_iand, zx_ior, zx_ixor, zx_ishl, zx_ishr, zx_iushr, zx_i2b, zx_i2l, zx_l2i, zx_ladd, zx_lmul, zx_ldiv, zx_lrem, zx_land, zx_lor, zx_lshl, zx_lshr, zx_lcmp, zx_dupi, zx_dupr, zx_dup2l, zx_dup2i, zx_pop, zx_ifc, zx_icmp, zx_ifnullN, zx_ifnullS, zx_ifnonN, zx_ifnonS, zx_goto, zx_gotow, zx_switch, zx_iaload, zx_baload, zx_laload, zx_aaload, zx_iastore, zx_bastore, zx_lastore, zx_aastore, zx_alen, zx_newarray, zx_anewarray, zx_new, zx_getI, zx_getL, zx_getR, zx_putI, zx_putZ, zx_putL, zx_putR, zx_callS, zx_callV, zx_objinit, zx_cpyi, zx_cpyl, zx_mmax, zx_mmin, zx_mminl, zx_ireturn, zx_areturn, zx_lreturn, zx_return, zcs_0, zcs_1, zcv_1, zcs_2, zcv_2, zcs_3, zcv_3, zcs_4, zcv_4, zcs_5, zcv_5, zcs_6, zcv_6, zcs_7, zcv_7, Int.reduceToNat, Nat.reduceDiv, Nat.reduceMod, zJ, zC, zK_wA, zN_wA, zR_wA, zS_wA, zA_wA, zK_wR, zN_wR, zR_wR, zS_wR, zA_wR, zK_cp, zN_cp, zR_cp, zS_cp, zA_cp, zK_mp, zN_mp, zR_mp, zS_mp, zA_mp, zfa, zfmm, zfa_1, zfb_1, zfa_2, zfb_2, zfa_3, zfb_3, zfa_4, zfb_4, zfa_5, zfb_5, zfa_6, zfb_6, zfa_7, zfb_7, zfa_8, zfb_8, zfa_9, zfb_9, zfa_10, zfb_10, zfa_12, zfb_12, zfa_20, zfb_20, zfa_21, zfb_21, zfa_30, zfb_30, zfa_48, zfb_48, zfa_60, zfb_60, zfa_61, zfb_61, zfa_65, zfb_65, zfa_97, zfb_97, zfa_100, zfb_100, zfa_120, zfb_120, zfa_124, zfb_124, zfa_500, zfb_500, zfa_792, zfb_792, zfa_2989, zfb_2989, zfm_2, zfn_2, zfm_3, zfn_3, zfm_4, zfn_4, zfm_6, zfn_6, zfm_7, zfn_7, zfm_8, zfn_8, zfm_12, zfn_12, zfm_49, zfn_49, zfm_60, zfn_60, zfm_61, zfn_61, zfm_792, zfn_792, zfm_2989, zfn_2989, Int.zero_add, Int.add_zero, Int.zero_mul, Int.mul_zero, Int.one_mul, Int.mul_one]
  have b0 := zMW_0 H0 127 0 (fun t => if t < n then zA H0 115 t else 0)
  rw [← b0]
  refine zl_tkl hL0 hn hn4 (h _ (zmd_mp (zmd_rf _ _) (fun _ => rfl)) (fun t ht => ?_)) _ 0 rfl (by omega)
  rw [zA_mp, if_pos ⟨rfl, by omega, by omega⟩, Nat.sub_zero]
set_option maxRecDepth 100000 in
theorem zl_msho {xs : Nat → Int} {L d b1 b2 : Nat} {H0 : zH} {Q : zQ} {n v : Nat} (hL0 : zLay H0) (hn : n ≤ 7) (h : Q v (zMW H0 124 0 7 (fun t => if t < n then zA H0 126 t else -1))) : ∀ (kk : Nat) (t : Nat), 7 - t = kk → (t ≤ 7) → zEt xs L d b1 b2 false 226 48 [some (zr (some 106)), some (zi n), some (zi v), some (zi t)] [] (zMW H0 124 0 t (fun t => if t < n then zA H0 126 t else -1)) Q := by
  intro kk
  induction kk using Nat.strongRecOn with
  | ind kk ih =>
    intro t hkk ht
    refine zgo_at [48] 8 ?_
    try simp -implicitDefEqProofs only [zgn_0, zgn_s, zct_0, zct_s, Nat.reduceEqDiff, Nat.reduceBEq, Nat.reduceAdd, Nat.reduceSub, Nat.reduceMul, Int.reduceAdd, Int.reduceSub, Int.reduceMul, Int.reduceNeg, Int.reduceLT, Int.reduceLE, Int.reduceEq, Nat.zero_add, true_and, and_true, false_and, and_false, true_imp_iff, false_imp_iff, not_true_eq_false, not_false_eq_true, if_true, if_false, Bool.false_eq_true, ite_true, ite_false, reduceIte, eq_self, Int.toNat_natCast, zst_0, zst_1, zst_2, zst_3, zst_4, true_or, or_true, or_false, false_or, ze_226_0, zB_226_0, ze_226_18, zB_226_18, ze_226_21, zB_226_21, ze_226_46, zB_226_46, ze_226_48, zB_226_48, ze_226_73, zB_226_73, ze_226_74, zB_226_74, ze_226_81, zB_226_81, zbr_t, zbr_f, zrun_c, zmI_s, zmL_s, zmR_s, zgt_0, zgt_s, zln_0, zln_s, zs1_0, zs1_1i, zs1_1r, zs1_1n, zs1_1l, zs1_s, zs2_0, zs2_1i, zs2_1r, zs2_1n, zs2_1l, zs2_s, zcn_eq, zcn_ne, zcn_lt, zcn_ge, zcn_gt, zcn_le, zpu_0, zpu_1, zpu_2, zx_iconst, zx_lconst, zx_ldc, zx_ldc2, zx_null, zx_iload, zx_lload, zx_aload, zx_istore, zx_lstore, zx_astore, zx_iinc, zx_iadd, zx_isub, zx_imul, zx_idiv, zx_irem, zx_iand, zx_ior, zx_ixor, zx_ishl, zx_ishr, zx_iushr, zx_i2b, zx_i2l, zx_l2i, zx_ladd, zx_lmul, zx_ldiv, zx_lrem, zx_land, zx_lor, zx_lshl, zx_lshr, zx_lcmp, zx_dupi, zx_dupr, zx_dup2l, zx_dup2i, zx_pop, zx_ifc, zx_icmp, zx_ifnullN, zx_ifnullS, zx_ifnonN, zx_ifnonS, zx_goto, zx_gotow, zx_switch, zx_iaload, zx_baload, zx_laload, zx_aaload, zx_iastore, zx_bastore, zx_lastore, zx_aastore, zx_alen, zx_newarray, zx_anewarray, zx_new, zx_getI, zx_getL, zx_getR, zx_putI, zx_putZ, zx_putL, zx_putR, zx_callS, zx_callV, zx_objinit, zx_cpyi, zx_cpyl, zx_mmax, zx_mmin, zx_mminl, zx_ireturn, zx_areturn, zx_lreturn, zx_return, zcs_0, zcs_1, zcv_1, zcs_2, zcv_2, zcs_3, zcv_3, zcs_4, zcv_4, zcs_5, zcv_5, zcs_6, zcv_6, zcs_7, zcv_7, Int.reduceToNat, Nat.reduceDiv, Nat.reduceMod, zJ, zC, zK_wA, zN_wA, zR_wA, zS_wA, zA_wA, zK_wR, zN_wR, zR_wR, zS_wR, zA_wR, zK_cp, zN_cp, zR_cp, zS_cp, zA_cp, zK_mp, zN_mp, zR_mp, zS_mp, zA_mp, zfa, zfmm, zfa_1, zfb_1, zfa_2, zfb_2, zfa_3, zfb_3, zfa_4, zfb_4, zfa_5, zfb_5, zfa_6, zfb_6, zfa_7, zfb_7, zfa_8, zfb_8, zfa_9, zfb_9, zfa_10, zfb_10, zfa_12, zfb_12, zfa_20, zfb_20, zfa_21, zfb_21, zfa_30, zfb_30, zfa_48, zfb_48, zfa_60, zfb_60, zfa_61, zfb_61, zfa_65, zfb_65, zfa_97, zfb_97, zfa_100, zfb_100, zfa_120, zfb_120, zfa_124, zfb_124, zfa_500, zfb_500, zfa_792, zfb_792, zfa_2989, zfb_2989, zfm_2, zfn_2, zfm_3, zfn_3, zfm_4, zfn_4, zfm_6, zfn_6, zfm_7, zfn_7, zfm_8, zfn_8, zfm_12, zfn_12, zfm_49, zfn_49, zfm_60, zfn_60, zfm_61, zfn_61, zfm_792, zfn_792, zfm_2989, zfn_2989, Int.zero_add, Int.add_zero, Int.zero_mul, Int.mul_zero, Int.one_mul, Int.mul_one, lk_106 hL0, lr_106_22 hL0, lk_124 hL0, ln_124 hL0, lr_106_24 hL0, lk_126 hL0, ln_126 hL0]
    refine zbr_i (fun q => ?_) (fun q => ?_)
    · have e9 : t = 7 := by omega
      subst e9
      exact h
    · have e1 := zMW_s H0 124 0 t (fun t => if t < n then zA H0 126 t else -1)
      rw [Nat.zero_add] at e1
      refine zbr_i (fun q1 => ?_) (fun q1 => ?_)
      · repeat (with_reducible refine And.intro ?_ ?_; · first | omega | (simp only [z32, z64]; omega))
        rw [show (if t < n then zA H0 126 t else -1) = -1 from if_neg (by omega)] at e1
        rw [e1]
        exact ih _ (by omega) (t + 1) rfl (by omega)
      · repeat (with_reducible refine And.intro ?_ ?_; · first | omega | (simp only [z32, z64]; omega))
        rw [show (if t < n then zA H0 126 t else -1) = zA H0 126 t from if_pos (by omega)] at e1
        rw [e1]
        exact ih _ (by omega) (t + 1) rfl (by omega)
