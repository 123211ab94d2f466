/-- the first ones changed places -/
def zfl (f : Nat → Nat) (c j : Nat) : Nat := if j < c then 1 - f j else f j
theorem zfl_0 (f : Nat → Nat) : zfl f 0 = f := by funext j; unfold zfl; rw [if_neg (by omega)]
set_option maxRecDepth 100000 in
theorem zl_gtB {xs : Nat → Int} {L d b1 b2 : Nat} {H0 : zH} {Q : zQ} {f : Nat → Nat} {e : Nat} (hL0 : zLay H0) (h : ∀ G : zH, zmg (zin [] []) (zin [30, 31] []) H0 G → zLO G e (zfl f 4) → Q 0 G) : ∀ (kk : Nat) (c : Nat) (G : zH) (w3 : Option zV), 4 - c = kk → (c ≤ 4) → (zmg (zin [] []) (zin [30, 31] []) H0 G) → (zLO G e (zfl f c)) → zEt xs L d b1 b2 false 65 67 [some (zr (some 29)), some (zr (some 6)), some (zi c), w3] [] G Q := by
  intro kk
  induction kk using Nat.strongRecOn with
  | ind kk ih =>
    intro c G w3 hkk hc hm hls
    have hL := zmg_lay hm (by decide) hL0
    obtain ⟨l1, l2, l3, l4⟩ := id hls
    refine zgo_at [67] 8 ?_
    try simp -implicitDefEqProofs only [zgn_0, zgn_s, zct_0, zct_s, Nat.reduceEqDiff, Nat.reduceBEq, Nat.reduceAdd, Nat.reduceSub, Nat.reduceMul, Int.reduceAdd, Int.reduceSub, Int.reduceMul, Int.reduceNeg, Int.reduceLT, Int.reduceLE, Int.reduceEq, Nat.zero_add, true_and, and_true, false_and, and_false, true_imp_iff, false_imp_iff, not_true_eq_false, not_false_eq_true, if_true, if_false, Bool.false_eq_true, ite_true, ite_false, reduceIte, eq_self, Int.toNat_natCast, zst_0, zst_1, zst_2, zst_3, zst_4, true_or, or_true, or_false, false_or, ze_65_0, zB_65_0, ze_65_2, zB_65_2, ze_65_36, zB_65_36, ze_65_59, zB_65_59, ze_65_65, zB_65_65, ze_65_67, zB_65_67, ze_65_104, zB_65_104, zbr_t, zbr_f, zrun_c, zmI_s, zmL_s, zmR_s, zgt_0, zgt_s, zln_0, zln_s, zs1_0, zs1_1i, zs1_1r, zs1_1n, zs1_1l, zs1_s, zs2_0, zs2_1i, zs2_1r, zs2_1n, zs2_1l, zs2_s, zcn_eq, zcn_ne, zcn_lt, zcn_ge, zcn_gt, zcn_le, zpu_0, zpu_1, zpu_2, zx_iconst, zx_lconst, zx_ldc, zx_ldc2, zx_null, zx_iload, zx_lload, zx_aload, zx_istore, zx_lstore, zx_astore, zx_iinc, zx_iadd, zx_isub, zx_imul, zx_idiv, zx_irem, zx_iand, zx_ior, zx_ixor, zx_ishl, zx_ishr, zx_iushr, zx_i2b, zx_i2l, zx_l2i, zx_ladd, zx_lmul, zx_ldiv, zx_lrem, zx_land, zx_lor, zx_lshl, zx_lshr, zx_lcmp, zx_dupi, zx_dupr, zx_dup2l, zx_dup2i, zx_pop, zx_ifc, zx_icmp, zx_ifnullN, zx_ifnullS, zx_ifnonN, zx_ifnonS, zx_goto, zx_gotow, zx_switch, zx_iaload, zx_baload, zx_laload, zx_aaload, zx_iastore, zx_bastore, zx_lastore, zx_aastore, zx_alen, zx_newarray, zx_anewarray, zx_new, zx_getI, zx_getL, zx_getR, zx_putI, zx_putZ, zx_putL, zx_putR, zx_callS, zx_callV, zx_objinit, zx_cpyi, zx_cpyl, zx_mmax, zx_mmin, zx_mminl, zx_ireturn, zx_areturn, zx_lreturn, zx_return, zcs_0, zcs_1, zcv_1, zcs_2, zcv_2, zcs_3, zcv_3, zcs_4, zcv_4, zcs_5, zcv_5, zcs_6, zcv_6, zcs_7, zcv_7, Int.reduceToNat, Nat.reduceDiv, Nat.reduceMod, zJ, zC, zK_wA, zN_wA, zR_wA, zS_wA, zA_wA, zK_wR, zN_wR, zR_wR, zS_wR, zA_wR, zK_cp, zN_cp, zR_cp, zS_cp, zA_cp, zK_mp, zN_mp, zR_mp, zS_mp, zA_mp, zfa, zfmm, zfa_1, zfb_1, zfa_2, zfb_2, zfa_3, zfb_3, zfa_4, zfb_4, zfa_5, zfb_5, zfa_6, zfb_6, zfa_7, zfb_7, zfa_8, zfb_8, zfa_9, zfb_9, zfa_10, zfb_10, zfa_12, zfb_12, zfa_20, zfb_20, zfa_21, zfb_21, zfa_30, zfb_30, zfa_48, zfb_48, zfa_60, zfb_60, zfa_61, zfb_61, zfa_65, zfb_65, zfa_97, zfb_97, zfa_100, zfb_100, zfa_120, zfb_120, zfa_124, zfb_124, zfa_500, zfb_500, zfa_792, zfb_792, zfa_2989, zfb_2989, zfm_2, zfn_2, zfm_3, zfn_3, zfm_4, zfn_4, zfm_6, zfn_6, zfm_7, zfn_7, zfm_8, zfn_8, zfm_12, zfn_12, zfm_49, zfn_49, zfm_60, zfn_60, zfm_61, zfn_61, zfm_792, zfn_792, zfm_2989, zfn_2989, Int.zero_add, Int.add_zero, Int.zero_mul, Int.mul_zero, Int.one_mul, Int.mul_one, lk_29 hL, lr_29_0 hL, lk_30 hL, ln_30 hL, lr_29_1 hL, lk_31 hL, ln_31 hL]
    refine zbr_i (fun q => ?_) (fun q => ?_)
    · have e9 : c = 4 := by omega
      subst e9
      exact h G hm hls
    · obtain ⟨hfc, l30, l31⟩ := l4 c (by omega)
      have ec : zfl f c c = f c := by unfold zfl; rw [if_neg (by omega)]
      rw [ec] at hfc l30 l31
      try simp -implicitDefEqProofs only [zgn_0, zgn_s, zct_0, zct_s, Nat.reduceEqDiff, Nat.reduceBEq, Nat.reduceAdd, Nat.reduceSub, Nat.reduceMul, Int.reduceAdd, Int.reduceSub, Int.reduceMul, Int.reduceNeg, Int.reduceLT, Int.reduceLE, Int.reduceEq, Nat.zero_add, true_and, and_true, false_and, and_false, true_imp_iff, false_imp_iff, not_true_eq_false, not_false_eq_true, if_true, if_false, Bool.false_eq_true, ite_true, ite_false, reduceIte, eq_self, Int.toNat_natCast, zst_0, zst_1, zst_2, zst_3, zst_4, true_or, or_true, or_false, false_or, ze_65_0, zB_65_0, ze_65_2, zB_65_2, ze_65_36, zB_65_36, ze_65_59, zB_65_59, ze_65_65, zB_65_65, ze_65_67, zB_65_67, ze_65_104, zB_65_104, zbr_t, zbr_f, zrun_c, zmI_s, zmL_s, zmR_s, zgt_0, zgt_s, zln_0, zln_s, zs1_0, zs1_1i, zs1_1r, zs1_1n, zs1_1l, zs1_s, zs2_0, zs2_1i, zs2_1r, zs2_1n, zs2_1l, zs2_s, zcn_eq, zcn_ne, zcn_lt, zcn_ge, zcn_gt, zcn_le, zpu_0, zpu_1, zpu_2, zx_iconst, zx_lconst, zx_ldc, zx_ldc2, zx_null, zx_iload, zx_lload, zx_aload, zx_istore, zx_lstore, zx_astore, zx_iinc, zx_iadd, zx_isub, zx_imul, zx_idiv, zx_irem, zx_iand, zx_ior, zx_ixor, zx_ishl, zx_ishr, zx_iushr, zx_i2b, zx_i2l, zx_l2i, zx_ladd, zx_lmul, zx_ldiv, zx_lrem, zx_land, zx_lor, zx_lshl, zx_lshr, zx_lcmp, zx_dupi, zx_dupr, zx_dup2l, zx_dup2i, zx_pop, zx_ifc, zx_icmp, zx_ifnullN, zx_ifnullS, zx_ifnonN, zx_ifnonS, zx_goto, zx_gotow, zx_switch, zx_iaload, zx_baload, zx_laload, zx_aaload, zx_iastore, zx_bastore, zx_lastore, zx_aastore, zx_alen, zx_newarray, zx_anewarray, zx_new, zx_getI, zx_getL, zx_getR, zx_putI, zx_putZ, zx_putL, zx_putR, zx_callS, zx_callV, zx_objinit, zx_cpyi, zx_cpyl, zx_mmax, zx_mmin, zx_mminl, zx_ireturn, zx_areturn, zx_lreturn, zx_return, zcs_0, zcs_1, zcv_1, zcs_2, zcv_2, zcs_3, zcv_3, zcs_4, zcv_4, zcs_5, zcv_5, zcs_6, zcv_6, zcs_7, zcv_7, Int.reduceToNat, Nat.reduceDiv, Nat.reduceMod, zJ, zC, zK_wA, zN_wA, zR_wA, zS_wA, zA_wA, zK_wR, zN_wR, zR_wR, zS_wR, zA_wR, zK_cp, zN_cp, zR_cp, zS_cp, zA_cp, zK_mp, zN_mp, zR_mp, zS_mp, zA_mp, zfa, zfmm, zfa_1, zfb_1, zfa_2, zfb_2, zfa_3, zfb_3, zfa_4, zfb_4, zfa_5, zfb_5, zfa_6, zfb_6, zfa_7, zfb_7, zfa_8, zfb_8, zfa_9, zfb_9, zfa_10, zfb_10, zfa_12, zfb_12, zfa_20, zfb_20, zfa_21, zfb_21, zfa_30, zfb_30, zfa_48, zfb_48, zfa_60, zfb_60, zfa_61, zfb_61, zfa_65, zfb_65, zfa_97, zfb_97, zfa_100, zfb_100, zfa_120, zfb_120, zfa_124, zfb_124, zfa_500, zfb_500, zfa_792, zfb_792, zfa_2989, zfb_2989, zfm_2, zfn_2, zfm_3, zfn_3, zfm_4, zfn_4, zfm_6, zfn_6, zfm_7, zfn_7, zfm_8, zfn_8, zfm_12, zfn_12, zfm_49, zfn_49, zfm_60, zfn_60, zfm_61, zfn_61, zfm_792, zfn_792, zfm_2989, zfn_2989, Int.zero_add, Int.add_zero, Int.zero_mul, Int.mul_zero, Int.one_mul, Int.mul_one, lk_29 hL, lr_29_0 hL, lk_30 hL, ln_30 hL, lr_29_1 hL, lk_31 hL, ln_31 hL, l30, l31]
      repeat (with_reducible refine And.intro ?_ ?_; · first | omega | (simp only [z32, z64]; omega))
      refine ⟨(zSO_u hL (k := c) (by omega) hfc).1, ?_⟩
      repeat (with_reducible refine And.intro ?_ ?_; · first | omega | (simp only [z32, z64]; omega))
      refine ⟨(zSO_t hL (k := c) (by omega) hfc).1, ?_⟩
      repeat (with_reducible refine And.intro ?_ ?_; · first | omega | (simp only [z32, z64]; omega))
      refine ih _ (by omega) (c + 1) _ _ rfl (by omega) (zmg_wR (zmg_wR hm rfl) rfl) ⟨l1, ?_, ?_, fun k hk => ?_⟩
      · rw [zR_wR, if_neg (by omega), zR_wR, if_neg (by omega)]; exact l2
      · rw [zR_wR, if_neg (by omega), zR_wR, if_neg (by omega)]; exact l3
      · rw [zR_wR, if_neg (by omega), zR_wR, zR_wR]
        obtain ⟨a1, a2, a3⟩ := l4 k hk
        by_cases ek : k = c
        · subst ek
          have e2 : zfl f (k + 1) k = 1 - f k := by unfold zfl; rw [if_pos (by omega)]
          rw [if_pos ⟨rfl, rfl⟩, if_pos ⟨rfl, rfl⟩, e2]
          refine ⟨by omega, ?_, ?_⟩
          · congr 1; omega
          · congr 1; omega
        · have e2 : zfl f (c + 1) k = zfl f c k := by
            unfold zfl
            by_cases q3 : k < c
            · rw [if_pos q3, if_pos (by omega)]
            · rw [if_neg q3, if_neg (by omega)]
          rw [if_neg (fun q => ek q.2), if_neg (fun q => ek q.2), zR_wR, if_neg (by omega), e2]
          exact ⟨a1, a2, a3⟩
set_option maxRecDepth 100000 in
theorem zc_growTrees {xs : Nat → Int} {L d b1 b2 : Nat} {H0 : zH} {Q : zQ} {fo f : Nat → Nat} {A : Nat → Nat → Prop} {e : Nat} (hL0 : zLay H0) (hd : 5 ≤ d) (hfo : zFo H0 fo) (hf : ∀ k : Nat, k < 4 → f k ≤ 1) (hA4 : ∀ k : Nat, k < 4 → zIn 4096 (A k)) (hls : zLO H0 e f) (hz : (∀ i : Nat, i < 512 → zA H0 32 i = 0)) (hT : (∀ k : Nat, k < 4 → zHs H0 (40 + 6 * k + 3 * f k) 331 (A k))) (h : ∀ (G : zH) (e : Nat), zmg (zin [32, 41, 42, 44, 45, 47, 48, 50, 51, 53, 54, 56, 57, 59, 60, 62, 63, 65, 66, 68, 69] []) (zin [30, 31] [(29, 2), (29, 3)]) H0 G → zLO G e (fun k => 1 - f k) → (∀ i : Nat, i < 512 → zA G 32 i = 0) → (∀ k : Nat, k < 4 → zHs G (40 + 6 * k + 3 * (1 - f k)) 331 ((fun k x => x = 1 ∨ ∃ s : Nat, zSk (fun j => fo k / 2 ^ j % 2 = 1) A 4 s ∧ x = 8 * s) k)) → Q 0 G) : zEm xs L d b1 b2 65 [zr (some 29), zr (some 6)] H0 Q := by
  refine zem_65 (zgo_at [2] 4 ?_)
  try simp -implicitDefEqProofs only [zgn_0, zgn_s, zct_0, zct_s, Nat.reduceEqDiff, Nat.reduceBEq, Nat.reduceAdd, Nat.reduceSub, Nat.reduceMul, Int.reduceAdd, Int.reduceSub, Int.reduceMul, Int.reduceNeg, Int.reduceLT, Int.reduceLE, Int.reduceEq, Nat.zero_add, true_and, and_true, false_and, and_false, true_imp_iff, false_imp_iff, not_true_eq_false, not_false_eq_true, if_true, if_false, Bool.false_eq_true, ite_true, ite_false, reduceIte, eq_self, Int.toNat_natCast, zst_0, zst_1, zst_2, zst_3, zst_4, true_or, or_true, or_false, false_or, ze_65_0, zB_65_0, ze_65_2, zB_65_2, ze_65_36, zB_65_36, ze_65_59, zB_65_59, ze_65_65, zB_65_65, ze_65_67, zB_65_67, ze_65_104, zB_65_104, zbr_t, zbr_f, zrun_c, zmI_s, zmL_s, zmR_s, zgt_0, zgt_s, zln_0, zln_s, zs1_0, zs1_1i, zs1_1r, zs1_1n, zs1_1l, zs1_s, zs2_0, zs2_1i, zs2_1r, zs2_1n, zs2_1l, zs2_s, zcn_eq, zcn_ne, zcn_lt, zcn_ge, zcn_gt, zcn_le, zpu_0, zpu_1, zpu_2, zx_iconst, zx_lconst, zx_ldc, zx_ldc2, zx_null, zx_iload, zx_lload, zx_aload, zx_istore, zx_lstore, zx_astore, zx_iinc, zx_iadd, zx_isub, zx_imul, zx_idiv, zx_irem, zx_iand, zx_ior, zx_ixor, zx_ishl, zx_ishr, zx_iushr, zx_i2b, zx_i2l, zx_l2i, zx_ladd, zx_lmul, zx_ldiv, zx_lrem, zx_land, zx_lor, zx_lshl, zx_lshr, zx_lcmp, zx_dupi, zx_dupr, zx_dup2l, zx_dup2i, zx_pop, zx_ifc, zx_icmp, zx_ifnullN, zx_ifnullS, zx_ifnonN, zx_ifnonS, zx_goto, zx_gotow, zx_switch, zx_iaload, zx_baload, zx_laload, zx_aaload, zx_iastore, zx_bastore, zx_lastore, zx_aastore, zx_alen, zx_newarray, zx_anewarray, zx_new, zx_getI, zx_getL, zx_getR, zx_putI, zx_putZ, zx_putL, zx_putR, zx_callS, zx_callV, zx_objinit, zx_cpyi, zx_cpyl, zx_mmax, zx_mmin, zx_mminl, zx_ireturn, zx_areturn, zx_lreturn, zx_return, zcs_0, zcs_1, zcv_1, zcs_2, zcv_2, zcs_3, zcv_3, zcs_4, zcv_4, zcs_5, zcv_5, zcs_6, zcv_6, zcs_7, zcv_7, Int.reduceToNat, Nat.reduceDiv, Nat.reduceMod, zJ, zC, zK_wA, zN_wA, zR_wA, zS_wA, zA_wA, zK_wR, zN_wR, zR_wR, zS_wR, zA_wR, zK_cp, zN_cp, zR_cp, zS_cp, zA_cp, zK_mp, zN_mp, zR_mp, zS_mp, zA_mp, zfa, zfmm, zfa_1, zfb_1, zfa_2, zfb_2, zfa_3, zfb_3, zfa_4, zfb_4, zfa_5, zfb_5, zfa_6, zfb_6, zfa_7, zfb_7, zfa_8, zfb_8, zfa_9, zfb_9, zfa_10, zfb_10, zfa_12, zfb_12, zfa_20, zfb_20, zfa_21, zfb_21, zfa_30, zfb_30, zfa_48, zfb_48, zfa_60, zfb_60, zfa_61, zfb_61, zfa_65, zfb_65, zfa_97, zfb_97, zfa_100, zfb_100, zfa_120, zfb_120, zfa_124, zfb_124, zfa_500, zfb_500, zfa_792, zfb_792, zfa_2989, zfb_2989, zfm_2, zfn_2, zfm_3, zfn_3, zfm_4, zfn_4, zfm_6, zfn_6, zfm_7, zfn_7, zfm_8, zfn_8, zfm_12, zfn_12, zfm_49, zfn_49, zfm_60, zfn_60, zfm_61, zfn_61, zfm_792, zfn_792, zfm_2989, zfn_2989, Int.zero_add, Int.add_zero, Int.zero_mul, Int.mul_zero, Int.one_mul, Int.mul_one]
  refine zl_gtA (A := A) hL0 hd hfo hf hA4 (fun G e1 w3 hm ls1 z1 n1 => ?_) _ 0 e H0 _ rfl (by omega) (zmg_rf _ _ _) hls hz hT (fun k hk => by omega)
  refine zgo_at [67] 4 ?_
  try simp -implicitDefEqProofs only [zgn_0, zgn_s, zct_0, zct_s, Nat.reduceEqDiff, Nat.reduceBEq, Nat.reduceAdd, Nat.reduceSub, Nat.reduceMul, Int.reduceAdd, Int.reduceSub, Int.reduceMul, Int.reduceNeg, Int.reduceLT, Int.reduceLE, Int.reduceEq, Nat.zero_add, true_and, and_true, false_and, and_false, true_imp_iff, false_imp_iff, not_true_eq_false, not_false_eq_true, if_true, if_false, Bool.false_eq_true, ite_true, ite_false, reduceIte, eq_self, Int.toNat_natCast, zst_0, zst_1, zst_2, zst_3, zst_4, true_or, or_true, or_false, false_or, ze_65_0, zB_65_0, ze_65_2, zB_65_2, ze_65_36, zB_65_36, ze_65_59, zB_65_59, ze_65_65, zB_65_65, ze_65_67, zB_65_67, ze_65_104, zB_65_104, zbr_t, zbr_f, zrun_c, zmI_s, zmL_s, zmR_s, zgt_0, zgt_s, zln_0, zln_s, zs1_0, zs1_1i, zs1_1r, zs1_1n, zs1_1l, zs1_s, zs2_0, zs2_1i, zs2_1r, zs2_1n, zs2_1l, zs2_s, zcn_eq, zcn_ne, zcn_lt, zcn_ge, zcn_gt, zcn_le, zpu_0, zpu_1, zpu_2, zx_iconst, zx_lconst, zx_ldc, zx_ldc2, zx_null, zx_iload, zx_lload, zx_aload, zx_istore, zx_lstore, zx_astore, zx_iinc, zx_iadd, zx_isub, zx_imul, zx_idiv, zx_irem, zx_iand, zx_ior, zx_ixor, zx_ishl, zx_ishr, zx_iushr, zx_i2b, zx_i2l, zx_l2i, zx_ladd, zx_lmul, zx_ldiv, zx_lrem, zx_land, zx_lor, zx_lshl, zx_lshr, zx_lcmp, zx_dupi, zx_dupr, zx_dup2l, zx_dup2i, zx_pop, zx_ifc, zx_icmp, zx_ifnullN, zx_ifnullS, zx_ifnonN, zx_ifnonS, zx_goto, zx_gotow, zx_switch, zx_iaload, zx_baload, zx_laload, zx_aaload, zx_iastore, zx_bastore, zx_lastore, zx_aastore, zx_alen, zx_newarray, zx_anewarray, zx_new, zx_getI, zx_getL, zx_getR, zx_putI, zx_putZ, zx_putL, zx_putR, zx_callS, zx_callV, zx_objinit, zx_cpyi, zx_cpyl, zx_mmax, zx_mmin, zx_mminl, zx_ireturn, zx_areturn, zx_lreturn, zx_return, zcs_0, zcs_1, zcv_1, zcs_2, zcv_2, zcs_3, zcv_3, zcs_4, zcv_4, zcs_5, zcv_5, zcs_6, zcv_6, zcs_7, zcv_7, Int.reduceToNat, Nat.reduceDiv, Nat.reduceMod, zJ, zC, zK_wA, zN_wA, zR_wA, zS_wA, zA_wA, zK_wR, zN_wR, zR_wR, zS_wR, zA_wR, zK_cp, zN_cp, zR_cp, zS_cp, zA_cp, zK_mp, zN_mp, zR_mp, zS_mp, zA_mp, zfa, zfmm, zfa_1, zfb_1, zfa_2, zfb_2, zfa_3, zfb_3, zfa_4, zfb_4, zfa_5, zfb_5, zfa_6, zfb_6, zfa_7, zfb_7, zfa_8, zfb_8, zfa_9, zfb_9, zfa_10, zfb_10, zfa_12, zfb_12, zfa_20, zfb_20, zfa_21, zfb_21, zfa_30, zfb_30, zfa_48, zfb_48, zfa_60, zfb_60, zfa_61, zfb_61, zfa_65, zfb_65, zfa_97, zfb_97, zfa_100, zfb_100, zfa_120, zfb_120, zfa_124, zfb_124, zfa_500, zfb_500, zfa_792, zfb_792, zfa_2989, zfb_2989, zfm_2, zfn_2, zfm_3, zfn_3, zfm_4, zfn_4, zfm_6, zfn_6, zfm_7, zfn_7, zfm_8, zfn_8, zfm_12, zfn_12, zfm_49, zfn_49, zfm_60, zfn_60, zfm_61, zfn_61, zfm_792, zfn_792, zfm_2989, zfn_2989, Int.zero_add, Int.add_zero, Int.zero_mul, Int.mul_zero, Int.one_mul, Int.mul_one]
  have hL1 := zmg_lay hm (by decide) hL0
  refine zl_gtB (f := f) (e := e1) hL1 (fun G2 m2 ls2 => ?_) _ 0 G _ rfl (by omega) (zmg_rf _ _ _) (by rw [zfl_0]; exact ls1)
  refine h G2 e1 (zmg_tr hm (zmg_up m2 rfl rfl)) ?_ (fun i hi => by rw [m2.2.2.2 32 i rfl]; exact z1 i hi) (fun k hk => zHs_mg m2 (fun _ => rfl) (fun _ => rfl) (n1 k hk))
  obtain ⟨a1, a2, a3, a4⟩ := ls2
  refine ⟨a1, a2, a3, fun k hk => ?_⟩
  have := a4 k hk
  have ek : zfl f 4 k = 1 - f k := by unfold zfl; rw [if_pos hk]
  rw [ek] at this
  exact this
/-- the rules as one number -/
def zRu (fi : Nat) (fo : Nat → Nat) : Nat → Nat
  | 0 => fi % 16
  | k + 1 => 16 * zRu fi fo k + fo k % 16
theorem zRu_b (fi : Nat) (fo : Nat → Nat) : zRu fi fo 0 < 16 ∧ zRu fi fo 1 < 256 ∧ zRu fi fo 2 < 4096 ∧ zRu fi fo 3 < 65536 ∧ zRu fi fo 4 < 1048576 := by
  have h0 : zRu fi fo 0 = fi % 16 := rfl
  have h1 : zRu fi fo 1 = 16 * zRu fi fo 0 + fo 0 % 16 := rfl
  have h2 : zRu fi fo 2 = 16 * zRu fi fo 1 + fo 1 % 16 := rfl
  have h3 : zRu fi fo 3 = 16 * zRu fi fo 2 + fo 2 % 16 := rfl
  have h4 : zRu fi fo 4 = 16 * zRu fi fo 3 + fo 3 % 16 := rfl
  omega
theorem zRu_s {fi : Nat} {fo : Nat → Nat} {k : Nat} (hk : k < 4) (hf : fo k < 256) : zor (zshl (zRu fi fo k : Nat) 4) (zand (fo k : Nat) 15) = ((zRu fi fo (k + 1) : Nat) : Int) := by
  have hb := zRu_b fi fo
  have hr : zRu fi fo k < 65536 := by
    have : k = 0 ∨ k = 1 ∨ k = 2 ∨ k = 3 := by omega
    rcases this with rfl | rfl | rfl | rfl <;> omega
  have h1 := zshl_n (a := zRu fi fo k) (k := 4) (by decide) (by omega)
  have h2 := zand_n (a := fo k) (b := 15) (by omega) (by decide)
  rw [show fo k &&& 15 = fo k % 16 from Nat.and_two_pow_sub_one_eq_mod (fo k) 4] at h2
  have e1 : zshl (zRu fi fo k : Nat) 4 = ((zRu fi fo k * 2 ^ 4 : Nat) : Int) := h1
  have e2 : zand (fo k : Nat) 15 = ((fo k % 16 : Nat) : Int) := h2
  rw [e1, e2, zor_n (by omega) (by omega)]
  have h3 := Nat.two_pow_add_eq_or_of_lt (i := 4) (b := fo k % 16) (by omega) (zRu fi fo k)
  rw [Nat.mul_comm (zRu fi fo k) (2 ^ 4), ← h3]
  rfl
/-- the whole for the rules r -/
def zRS (r : Nat) : Nat → Prop := zSk (fun k => r / 2 ^ (16 + k) % 2 = 1) (zTr (fun c k => r / 2 ^ (4 * (3 - c) + k) % 2 = 1) 4) 4
theorem zRu_f {fi : Nat} {fo : Nat → Nat} {k : Nat} (hk : k < 4) : zRu fi fo 4 / 2 ^ (16 + k) % 2 = fi / 2 ^ k % 2 := by
  have h : zRu fi fo 4 = 16 * (16 * (16 * (16 * (fi % 16) + fo 0 % 16) + fo 1 % 16) + fo 2 % 16) + fo 3 % 16 := rfl
  have : k = 0 ∨ k = 1 ∨ k = 2 ∨ k = 3 := by omega
  rw [h]
  have e : (16 * (16 * (16 * (16 * (fi % 16) + fo 0 % 16) + fo 1 % 16) + fo 2 % 16) + fo 3 % 16) / 65536 = fi % 16 := by omega
  rcases this with rfl | rfl | rfl | rfl
  · rw [show 2 ^ (16 + 0) = 65536 from rfl, e]; simp only [Nat.reducePow]; omega
  · rw [show 2 ^ (16 + 1) = 65536 * 2 from rfl, ← Nat.div_div_eq_div_mul, e]; simp only [Nat.reducePow]; omega
  · rw [show 2 ^ (16 + 2) = 65536 * 4 from rfl, ← Nat.div_div_eq_div_mul, e]; simp only [Nat.reducePow]; omega
  · rw [show 2 ^ (16 + 3) = 65536 * 8 from rfl, ← Nat.div_div_eq_div_mul, e]; simp only [Nat.reducePow]; omega
theorem zbm4 {x y k : Nat} (hk : k < 4) (h : x % 16 = y % 16) : x / 2 ^ k % 2 = y / 2 ^ k % 2 := by
  have : k = 0 ∨ k = 1 ∨ k = 2 ∨ k = 3 := by omega
  rcases this with rfl | rfl | rfl | rfl
  · simp only [Nat.reducePow]; omega
  · simp only [Nat.reducePow]; omega
  · simp only [Nat.reducePow]; omega
  · simp only [Nat.reducePow]; omega
theorem zRu_m {fi : Nat} {fo : Nat → Nat} {c k : Nat} (hc : c < 4) (hk : k < 4) : zRu fi fo 4 / 2 ^ (4 * (3 - c) + k) % 2 = fo c / 2 ^ k % 2 := by
  have h : zRu fi fo 4 = 16 * (16 * (16 * (16 * (fi % 16) + fo 0 % 16) + fo 1 % 16) + fo 2 % 16) + fo 3 % 16 := rfl
  rw [h, Nat.pow_add, ← Nat.div_div_eq_div_mul]
  refine zbm4 hk ?_
  have : c = 0 ∨ c = 1 ∨ c = 2 ∨ c = 3 := by omega
  rcases this with rfl | rfl | rfl | rfl
  · simp only [Nat.reduceSub, Nat.reduceMul, Nat.reducePow]; omega
  · simp only [Nat.reduceSub, Nat.reduceMul, Nat.reducePow]; omega
  · simp only [Nat.reduceSub, Nat.reduceMul, Nat.reducePow]; omega
  · simp only [Nat.reduceSub, Nat.reduceMul, Nat.reducePow, Nat.div_one]; omega
theorem zTr_c {m m' : Nat → Nat → Prop} (h : ∀ c k : Nat, c < 4 → k < 4 → (m c k ↔ m' c k)) : ∀ (n c : Nat), c < 4 → ∀ x : Nat, zTr m n c x ↔ zTr m' n c x
  | 0, _, _, x => Iff.rfl
  | n + 1, c, hc, x => by
    have ih := zTr_c h n
    have hq := zSk_c (f := m c) (g := m' c) (A := zTr m n) (B := zTr m' n) 4 (fun j hj => ⟨h c j hc hj, ih j hj⟩)
    constructor
    · rintro (rr | ⟨s, r1, r2⟩)
      · exact Or.inl rr
      · exact Or.inr ⟨s, (hq s).mp r1, r2⟩
    · rintro (rr | ⟨s, r1, r2⟩)
      · exact Or.inl rr
      · exact Or.inr ⟨s, (hq s).mpr r1, r2⟩
/-- the whole, by rules -/
theorem zRS_e {fi : Nat} {fo : Nat → Nat} {F : Nat → Prop} {m : Nat → Nat → Prop} (hF : ∀ k : Nat, k < 4 → (fi / 2 ^ k % 2 = 1 ↔ F k)) (hm : ∀ c k : Nat, c < 4 → k < 4 → (fo c / 2 ^ k % 2 = 1 ↔ m c k)) (x : Nat) : zRS (zRu fi fo 4) x ↔ zSk F (zTr m 4) 4 x :=
  zSk_c 4 (fun k hk => ⟨by rw [zRu_f hk]; exact hF k hk, zTr_c (fun c k hc hk => by rw [zRu_m hc hk]; exact hm c k hc hk) 4 k hk⟩) x
