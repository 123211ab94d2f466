set_option maxRecDepth 100000 in
theorem zl_mrnC {xs : Nat → Int} {L d b1 b2 : Nat} {H0 : zH} {Q : zQ}  (hL0 : zLay H0) (h : ∀ H : zH, zmd (zin [110] []) H0 H → (∀ j : Nat, j < 8 → zA H 110 j = zA H0 134 j) → Q (zA H0 106 37) H) : ∀ (kk : Nat) (c : Nat) (H : zH), 8 - c = kk → (c ≤ 8) → (zmd (zin [110] []) H0 H) → (∀ j : Nat, j < c → zA H 110 j = zA H0 134 j) → zEt xs L d b1 b2 false 249 28 [some (zr (some 106)), some (zi c)] [] H Q := by
  intro kk
  induction kk using Nat.strongRecOn with
  | ind kk ih =>
    intro c H hkk hc hm hA
    refine zgo_at [28] 8 ?_
    try simp -implicitDefEqProofs only [zgn_0, zgn_s, zct_0, zct_s, Nat.reduceEqDiff, Nat.reduceBEq, Nat.reduceAdd, Nat.reduceSub, Nat.reduceMul, Int.reduceAdd, Int.reduceSub, Int.reduceMul, Int.reduceNeg, Int.reduceLT, Int.reduceLE, Int.reduceEq, Nat.zero_add, true_and, and_true, false_and, and_false, true_imp_iff, false_imp_iff, not_true_eq_false, not_false_eq_true, if_true, if_false, Bool.false_eq_true, ite_true, ite_false, reduceIte, eq_self, Int.toNat_natCast, zst_0, zst_1, zst_2, zst_3, zst_4, true_or, or_true, or_false, false_or, ze_249_0, zB_249_0, ze_249_26, zB_249_26, ze_249_28, zB_249_28, ze_249_52, zB_249_52, zbr_t, zbr_f, zrun_c, zmI_s, zmL_s, zmR_s, zgt_0, zgt_s, zln_0, zln_s, zs1_0, zs1_1i, zs1_1r, zs1_1n, zs1_1l, zs1_s, zs2_0, zs2_1i, zs2_1r, zs2_1n, zs2_1l, zs2_s, zcn_eq, zcn_ne, zcn_lt, zcn_ge, zcn_gt, zcn_le, zpu_0, zpu_1, zpu_2, zx_iconst, zx_lconst, zx_ldc, zx_ldc2, zx_null, zx_iload, zx_lload, zx_aload, zx_istore, zx_lstore, zx_astore, zx_iinc, zx_iadd, zx_isub, zx_imul, zx_idiv, zx_irem, zx_iand, zx_ior, zx_ixor, zx_ishl, zx_ishr, zx_iushr, zx_i2b, zx_i2l, zx_l2i, zx_ladd, zx_lmul, zx_ldiv, zx_lrem, zx_land, zx_lor, zx_lshl, zx_lshr, zx_lcmp, zx_dupi, zx_dupr, zx_dup2l, zx_dup2i, zx_pop, zx_ifc, zx_icmp, zx_ifnullN, zx_ifnullS, zx_ifnonN, zx_ifnonS, zx_goto, zx_gotow, zx_switch, zx_iaload, zx_baload, zx_laload, zx_aaload, zx_iastore, zx_bastore, zx_lastore, zx_aastore, zx_alen, zx_newarray, zx_anewarray, zx_new, zx_getI, zx_getL, zx_getR, zx_putI, zx_putZ, zx_putL, zx_putR, zx_callS, zx_callV, zx_objinit, zx_cpyi, zx_cpyl, zx_mmax, zx_mmin, zx_mminl, zx_ireturn, zx_areturn, zx_lreturn, zx_return, zcs_0, zcs_1, zcv_1, zcs_2, zcv_2, zcs_3, zcv_3, zcs_4, zcv_4, zcs_5, zcv_5, zcs_6, zcv_6, zcs_7, zcv_7, Int.reduceToNat, Nat.reduceDiv, Nat.reduceMod, zJ, zC, zK_wA, zN_wA, zR_wA, zS_wA, zA_wA, zK_wR, zN_wR, zR_wR, zS_wR, zA_wR, zK_cp, zN_cp, zR_cp, zS_cp, zA_cp, zK_mp, zN_mp, zR_mp, zS_mp, zA_mp, zfa, zfmm, zfa_1, zfb_1, zfa_2, zfb_2, zfa_3, zfb_3, zfa_4, zfb_4, zfa_5, zfb_5, zfa_6, zfb_6, zfa_7, zfb_7, zfa_8, zfb_8, zfa_9, zfb_9, zfa_10, zfb_10, zfa_12, zfb_12, zfa_20, zfb_20, zfa_21, zfb_21, zfa_30, zfb_30, zfa_48, zfb_48, zfa_60, zfb_60, zfa_61, zfb_61, zfa_65, zfb_65, zfa_97, zfb_97, zfa_100, zfb_100, zfa_120, zfb_120, zfa_124, zfb_124, zfa_500, zfb_500, zfa_792, zfb_792, zfa_2989, zfb_2989, zfm_2, zfn_2, zfm_3, zfn_3, zfm_4, zfn_4, zfm_6, zfn_6, zfm_7, zfn_7, zfm_8, zfn_8, zfm_12, zfn_12, zfm_49, zfn_49, zfm_60, zfn_60, zfm_61, zfn_61, zfm_792, zfn_792, zfm_2989, zfn_2989, Int.zero_add, Int.add_zero, Int.zero_mul, Int.mul_zero, Int.one_mul, Int.mul_one, lk_106 (zmd_lay hm hL0), lr_106_36 (zmd_lay hm hL0), lr_106_4 (zmd_lay hm hL0), lk_134 (zmd_lay hm hL0), ln_134 (zmd_lay hm hL0), lk_110 (zmd_lay hm hL0), ln_110 (zmd_lay hm hL0), hm.2.2.2 134 _ rfl, hm.2.2.2 106 37 rfl]
    refine zbr_i (fun q => ?_) (fun q => ?_)
    · have e9 : c = 8 := by omega
      subst e9
      exact h H hm hA
    · repeat (with_reducible refine And.intro ?_ ?_; · first | omega | (simp only [z32, z64]; omega))
      refine ih _ (by omega) (c + 1) _ rfl (by omega) (zmd_w hm rfl) (fun j hj => ?_)
      rw [zA_wA]
      by_cases ej : j = c
      · rw [if_pos ⟨rfl, ej⟩, ej]
      · rw [if_neg (fun q => ej q.2)]; exact hA j (by omega)
set_option maxRecDepth 100000 in
theorem zc_mrenew {xs : Nat → Int} {L d b1 b2 : Nat} {H0 : zH} {Q : zQ} {n : Nat} (hL0 : zLay H0) (hn : 1 ≤ n) (hbad : zA H0 106 28 = (n : Int) - 1) (hT : ∀ j : Nat, j < 64 → 0 ≤ zA H0 129 j ∧ zA H0 129 j ≤ 300) (hd : 10 ≤ d) (h : ∀ (B : Nat → Int) (H : zH), (∀ j : Nat, j < 8 → ∃ p : Nat, p < 256 ∧ (∀ q : Nat, q < 8 → (zbt1 p q = true ↔ zEx (fun k d => (zsm (fun e => zA H0 129 (8 * k + e)) 8 - zA H0 129 (8 * k + d)).toNat) n 8 0 0 j q)) ∧ B j = if zonly p < 0 then 8 else zonly p) → zmd (zin [110, 130, 131, 134] [(106, 30), (106, 37)]) H0 H → (∀ j : Nat, j < 8 → zA H 110 j = (zGb (zKc B (zA H0 110)) 8 0 j : Int)) → Q (zMn (zKc B (zA H0 110)) 8 0) H) : zEm xs L d b1 b2 249 [zr (some 106)] H0 Q := by
  refine zem_249 (zgo_at [28] 8 ?_)
  try simp -implicitDefEqProofs only [zgn_0, zgn_s, zct_0, zct_s, Nat.reduceEqDiff, Nat.reduceBEq, Nat.reduceAdd, Nat.reduceSub, Nat.reduceMul, Int.reduceAdd, Int.reduceSub, Int.reduceMul, Int.reduceNeg, Int.reduceLT, Int.reduceLE, Int.reduceEq, Nat.zero_add, true_and, and_true, false_and, and_false, true_imp_iff, false_imp_iff, not_true_eq_false, not_false_eq_true, if_true, if_false, Bool.false_eq_true, ite_true, ite_false, reduceIte, eq_self, Int.toNat_natCast, zst_0, zst_1, zst_2, zst_3, zst_4, true_or, or_true, or_false, false_or, ze_249_0, zB_249_0, ze_249_26, zB_249_26, ze_249_28, zB_249_28, ze_249_52, zB_249_52, zbr_t, zbr_f, zrun_c, zmI_s, zmL_s, zmR_s, zgt_0, zgt_s, zln_0, zln_s, zs1_0, zs1_1i, zs1_1r, zs1_1n, zs1_1l, zs1_s, zs2_0, zs2_1i, zs2_1r, zs2_1n, zs2_1l, zs2_s, zcn_eq, zcn_ne, zcn_lt, zcn_ge, zcn_gt, zcn_le, zpu_0, zpu_1, zpu_2, zx_iconst, zx_lconst, zx_ldc, zx_ldc2, zx_null, zx_iload, zx_lload, zx_aload, zx_istore, zx_lstore, zx_astore, zx_iinc, zx_iadd, zx_isub, zx_imul, zx_idiv, zx_irem, zx_iand, zx_ior, zx_ixor, zx_ishl, zx_ishr, zx_iushr, zx_i2b, zx_i2l, zx_l2i, zx_ladd, zx_lmul, zx_ldiv, zx_lrem, zx_land, zx_lor, zx_lshl, zx_lshr, zx_lcmp, zx_dupi, zx_dupr, zx_dup2l, zx_dup2i, zx_pop, zx_ifc, zx_icmp, zx_ifnullN, zx_ifnullS, zx_ifnonN, zx_ifnonS, zx_goto, zx_gotow, zx_switch, zx_iaload, zx_baload, zx_laload, zx_aaload, zx_iastore, zx_bastore, zx_lastore, zx_aastore, zx_alen, zx_newarray, zx_anewarray, zx_new, zx_getI, zx_getL, zx_getR, zx_putI, zx_putZ, zx_putL, zx_putR, zx_callS, zx_callV, zx_objinit, zx_cpyi, zx_cpyl, zx_mmax, zx_mmin, zx_mminl, zx_ireturn, zx_areturn, zx_lreturn, zx_return, zcs_0, zcs_1, zcv_1, zcs_2, zcv_2, zcs_3, zcv_3, zcs_4, zcv_4, zcs_5, zcv_5, zcs_6, zcv_6, zcs_7, zcv_7, Int.reduceToNat, Nat.reduceDiv, Nat.reduceMod, zJ, zC, zK_wA, zN_wA, zR_wA, zS_wA, zA_wA, zK_wR, zN_wR, zR_wR, zS_wR, zA_wR, zK_cp, zN_cp, zR_cp, zS_cp, zA_cp, zK_mp, zN_mp, zR_mp, zS_mp, zA_mp, zfa, zfmm, zfa_1, zfb_1, zfa_2, zfb_2, zfa_3, zfb_3, zfa_4, zfb_4, zfa_5, zfb_5, zfa_6, zfb_6, zfa_7, zfb_7, zfa_8, zfb_8, zfa_9, zfb_9, zfa_10, zfb_10, zfa_12, zfb_12, zfa_20, zfb_20, zfa_21, zfb_21, zfa_30, zfb_30, zfa_48, zfb_48, zfa_60, zfb_60, zfa_61, zfb_61, zfa_65, zfb_65, zfa_97, zfb_97, zfa_100, zfb_100, zfa_120, zfb_120, zfa_124, zfb_124, zfa_500, zfb_500, zfa_792, zfb_792, zfa_2989, zfb_2989, zfm_2, zfn_2, zfm_3, zfn_3, zfm_4, zfn_4, zfm_6, zfn_6, zfm_7, zfn_7, zfm_8, zfn_8, zfm_12, zfn_12, zfm_49, zfn_49, zfm_60, zfn_60, zfm_61, zfn_61, zfm_792, zfn_792, zfm_2989, zfn_2989, Int.zero_add, Int.add_zero, Int.zero_mul, Int.mul_zero, Int.one_mul, Int.mul_one, lk_106 hL0]
  refine ⟨by omega, zc_makeBooks hL0 hn hbad hT (by omega) (fun H1 hm k2 k3 => ?_)⟩
  have hL1 := zmd_lay hm hL0
  obtain ⟨B, hB⟩ : ∃ B : Nat → Int, B = fun j => if zonly (zA H1 131 j).toNat < 0 then 8 else zonly (zA H1 131 j).toNat := ⟨_, rfl⟩
  have hS : (∀ j : Nat, j < 8 → ∃ p : Nat, p < 256 ∧ (∀ q : Nat, q < 8 → (zbt1 p q = true ↔ zEx (fun k d => (zsm (fun e => zA H0 129 (8 * k + e)) 8 - zA H0 129 (8 * k + d)).toNat) n 8 0 0 j q)) ∧ B j = if zonly p < 0 then 8 else zonly p) := by
    intro j hj
    obtain ⟨g1, g2⟩ := k3 j hj
    refine ⟨(zA H1 131 j).toNat, by omega, fun q hq => ?_, by rw [hB]⟩
    rw [← g2 q hq]
    unfold zbit zbt1
    simp only [beq_iff_eq]
    omega
  have hf := zfeas (D := zA H0 110) hS
  have hL1' := zLay_wA hL1 106 37 (-1)
  have e110 : zA (zwA H1 106 37 (-1)) 110 = zA H0 110 := by
    rw [← zmE hm (a := 110) (fun _ => rfl)]
    funext j
    rw [zA_wA, if_neg (by omega)]
  try simp -implicitDefEqProofs only [zgn_0, zgn_s, zct_0, zct_s, Nat.reduceEqDiff, Nat.reduceBEq, Nat.reduceAdd, Nat.reduceSub, Nat.reduceMul, Int.reduceAdd, Int.reduceSub, Int.reduceMul, Int.reduceNeg, Int.reduceLT, Int.reduceLE, Int.reduceEq, Nat.zero_add, true_and, and_true, false_and, and_false, true_imp_iff, false_imp_iff, not_true_eq_false, not_false_eq_true, if_true, if_false, Bool.false_eq_true, ite_true, ite_false, reduceIte, eq_self, Int.toNat_natCast, zst_0, zst_1, zst_2, zst_3, zst_4, true_or, or_true, or_false, false_or, ze_249_0, zB_249_0, ze_249_26, zB_249_26, ze_249_28, zB_249_28, ze_249_52, zB_249_52, zbr_t, zbr_f, zrun_c, zmI_s, zmL_s, zmR_s, zgt_0, zgt_s, zln_0, zln_s, zs1_0, zs1_1i, zs1_1r, zs1_1n, zs1_1l, zs1_s, zs2_0, zs2_1i, zs2_1r, zs2_1n, zs2_1l, zs2_s, zcn_eq, zcn_ne, zcn_lt, zcn_ge, zcn_gt, zcn_le, zpu_0, zpu_1, zpu_2, zx_iconst, zx_lconst, zx_ldc, zx_ldc2, zx_null, zx_iload, zx_lload, zx_aload, zx_istore, zx_lstore, zx_astore, zx_iinc, zx_iadd, zx_isub, zx_imul, zx_idiv, zx_irem, zx_iand, zx_ior, zx_ixor, zx_ishl, zx_ishr, zx_iushr, zx_i2b, zx_i2l, zx_l2i, zx_ladd, zx_lmul, zx_ldiv, zx_lrem, zx_land, zx_lor, zx_lshl, zx_lshr, zx_lcmp, zx_dupi, zx_dupr, zx_dup2l, zx_dup2i, zx_pop, zx_ifc, zx_icmp, zx_ifnullN, zx_ifnullS, zx_ifnonN, zx_ifnonS, zx_goto, zx_gotow, zx_switch, zx_iaload, zx_baload, zx_laload, zx_aaload, zx_iastore, zx_bastore, zx_lastore, zx_aastore, zx_alen, zx_newarray, zx_anewarray, zx_new, zx_getI, zx_getL, zx_getR, zx_putI, zx_putZ, zx_putL, zx_putR, zx_callS, zx_callV, zx_objinit, zx_cpyi, zx_cpyl, zx_mmax, zx_mmin, zx_mminl, zx_ireturn, zx_areturn, zx_lreturn, zx_return, zcs_0, zcs_1, zcv_1, zcs_2, zcv_2, zcs_3, zcv_3, zcs_4, zcv_4, zcs_5, zcv_5, zcs_6, zcv_6, zcs_7, zcv_7, Int.reduceToNat, Nat.reduceDiv, Nat.reduceMod, zJ, zC, zK_wA, zN_wA, zR_wA, zS_wA, zA_wA, zK_wR, zN_wR, zR_wR, zS_wR, zA_wR, zK_cp, zN_cp, zR_cp, zS_cp, zA_cp, zK_mp, zN_mp, zR_mp, zS_mp, zA_mp, zfa, zfmm, zfa_1, zfb_1, zfa_2, zfb_2, zfa_3, zfb_3, zfa_4, zfb_4, zfa_5, zfb_5, zfa_6, zfb_6, zfa_7, zfb_7, zfa_8, zfb_8, zfa_9, zfb_9, zfa_10, zfb_10, zfa_12, zfb_12, zfa_20, zfb_20, zfa_21, zfb_21, zfa_30, zfb_30, zfa_48, zfb_48, zfa_60, zfb_60, zfa_61, zfb_61, zfa_65, zfb_65, zfa_97, zfb_97, zfa_100, zfb_100, zfa_120, zfb_120, zfa_124, zfb_124, zfa_500, zfb_500, zfa_792, zfb_792, zfa_2989, zfb_2989, zfm_2, zfn_2, zfm_3, zfn_3, zfm_4, zfn_4, zfm_6, zfn_6, zfm_7, zfn_7, zfm_8, zfn_8, zfm_12, zfn_12, zfm_49, zfn_49, zfm_60, zfn_60, zfm_61, zfn_61, zfm_792, zfn_792, zfm_2989, zfn_2989, Int.zero_add, Int.add_zero, Int.zero_mul, Int.mul_zero, Int.one_mul, Int.mul_one, lk_106 hL1]
  refine ⟨by clear hS; omega, zc_renews (B := B) (H0 := zwA H1 106 37 (-1)) hL1' (fun j hj => ?_) 8 (by omega) (d - 1) 0 0 (-1) (zwA H1 106 37 (-1)) _ (by clear hS; omega) (by omega) rfl (by omega) (by omega) (zmd_rf _ _) rfl (Or.inl rfl) (fun H2 hm2 _ ko => ?_)⟩
  · obtain ⟨g1, g2⟩ := k3 j hj
    exact ⟨(zA H1 131 j).toNat, by omega, by rw [zA_wA, if_neg (by omega)]; omega, by rw [hB]⟩
  · rw [e110] at ko
    obtain ⟨c1, c2⟩ := ko.1 ⟨hf, Or.inl rfl⟩
    have hv := (zMn_b (K := (zKc B (zA H0 110))) (fun k e _ _ => (zKc_b B (zA H0 110) k e).1) 8 0 (by omega)).1
    have hL2 := zmd_lay hm2 hL1'
    try simp -implicitDefEqProofs only [zgn_0, zgn_s, zct_0, zct_s, Nat.reduceEqDiff, Nat.reduceBEq, Nat.reduceAdd, Nat.reduceSub, Nat.reduceMul, Int.reduceAdd, Int.reduceSub, Int.reduceMul, Int.reduceNeg, Int.reduceLT, Int.reduceLE, Int.reduceEq, Nat.zero_add, true_and, and_true, false_and, and_false, true_imp_iff, false_imp_iff, not_true_eq_false, not_false_eq_true, if_true, if_false, Bool.false_eq_true, ite_true, ite_false, reduceIte, eq_self, Int.toNat_natCast, zst_0, zst_1, zst_2, zst_3, zst_4, true_or, or_true, or_false, false_or, ze_249_0, zB_249_0, ze_249_26, zB_249_26, ze_249_28, zB_249_28, ze_249_52, zB_249_52, zbr_t, zbr_f, zrun_c, zmI_s, zmL_s, zmR_s, zgt_0, zgt_s, zln_0, zln_s, zs1_0, zs1_1i, zs1_1r, zs1_1n, zs1_1l, zs1_s, zs2_0, zs2_1i, zs2_1r, zs2_1n, zs2_1l, zs2_s, zcn_eq, zcn_ne, zcn_lt, zcn_ge, zcn_gt, zcn_le, zpu_0, zpu_1, zpu_2, zx_iconst, zx_lconst, zx_ldc, zx_ldc2, zx_null, zx_iload, zx_lload, zx_aload, zx_istore, zx_lstore, zx_astore, zx_iinc, zx_iadd, zx_isub, zx_imul, zx_idiv, zx_irem, zx_iand, zx_ior, zx_ixor, zx_ishl, zx_ishr, zx_iushr, zx_i2b, zx_i2l, zx_l2i, zx_ladd, zx_lmul, zx_ldiv, zx_lrem, zx_land, zx_lor, zx_lshl, zx_lshr, zx_lcmp, zx_dupi, zx_dupr, zx_dup2l, zx_dup2i, zx_pop, zx_ifc, zx_icmp, zx_ifnullN, zx_ifnullS, zx_ifnonN, zx_ifnonS, zx_goto, zx_gotow, zx_switch, zx_iaload, zx_baload, zx_laload, zx_aaload, zx_iastore, zx_bastore, zx_lastore, zx_aastore, zx_alen, zx_newarray, zx_anewarray, zx_new, zx_getI, zx_getL, zx_getR, zx_putI, zx_putZ, zx_putL, zx_putR, zx_callS, zx_callV, zx_objinit, zx_cpyi, zx_cpyl, zx_mmax, zx_mmin, zx_mminl, zx_ireturn, zx_areturn, zx_lreturn, zx_return, zcs_0, zcs_1, zcv_1, zcs_2, zcv_2, zcs_3, zcv_3, zcs_4, zcv_4, zcs_5, zcv_5, zcs_6, zcv_6, zcs_7, zcv_7, Int.reduceToNat, Nat.reduceDiv, Nat.reduceMod, zJ, zC, zK_wA, zN_wA, zR_wA, zS_wA, zA_wA, zK_wR, zN_wR, zR_wR, zS_wR, zA_wR, zK_cp, zN_cp, zR_cp, zS_cp, zA_cp, zK_mp, zN_mp, zR_mp, zS_mp, zA_mp, zfa, zfmm, zfa_1, zfb_1, zfa_2, zfb_2, zfa_3, zfb_3, zfa_4, zfb_4, zfa_5, zfb_5, zfa_6, zfb_6, zfa_7, zfb_7, zfa_8, zfb_8, zfa_9, zfb_9, zfa_10, zfb_10, zfa_12, zfb_12, zfa_20, zfb_20, zfa_21, zfb_21, zfa_30, zfb_30, zfa_48, zfb_48, zfa_60, zfb_60, zfa_61, zfb_61, zfa_65, zfb_65, zfa_97, zfb_97, zfa_100, zfb_100, zfa_120, zfb_120, zfa_124, zfb_124, zfa_500, zfb_500, zfa_792, zfb_792, zfa_2989, zfb_2989, zfm_2, zfn_2, zfm_3, zfn_3, zfm_4, zfn_4, zfm_6, zfn_6, zfm_7, zfn_7, zfm_8, zfn_8, zfm_12, zfn_12, zfm_49, zfn_49, zfm_60, zfn_60, zfm_61, zfn_61, zfm_792, zfn_792, zfm_2989, zfn_2989, Int.zero_add, Int.add_zero, Int.zero_mul, Int.mul_zero, Int.one_mul, Int.mul_one, lk_106 hL2]
    refine zbr_i (fun q => ?_) (fun q => absurd (Classical.not_not.mp q) (by rw [c1]; clear hS; omega))
    refine zl_mrnC hL2 (fun H3 hm3 hA3 => ?_) _ 0 _ rfl (by omega) (zmd_rf _ _) (fun j hj => by omega)
    rw [c1, Int.zero_add]
    refine h B H3 hS (zmd_tr (zmd_tr (zmd_w (zmd_up hm rfl) rfl) (zmd_up hm2 rfl)) (zmd_up hm3 rfl)) (fun j hj => ?_)
    rw [hA3 j hj, c2 j hj, if_neg (by omega)]
theorem zp_renew {xs : Nat → Int} {L d : Nat} {H : zH} (hd : 10 ≤ d) (hL : zLay H) (hI : iNi H) (hM : iMis H) (hiD : iD H) : zPair xs L d 92 249 [] H (fun H2 => zmd (zin [12, 74, 75, 110, 130, 131, 134] [(106, 30), (106, 37)]) H H2 ∧ iD H2 ∧ iDs H2) := by
  obtain ⟨n, hn, hn7, m1, m2, t1, t2, t3, t4, t5⟩ := iNi_w hI hM
  have hT : ∀ j : Nat, j < 64 → 0 ≤ zA H 71 j ∧ zA H 71 j ≤ 1000 := fun j hj => by have := t1 j hj; omega
  have hO : ∀ k : Nat, k < 8 → 0 ≤ zA H 72 k ∧ zA H 72 k ≤ 1000 := fun k hk => by have := t2 k hk; omega
  refine zc_renew hL rfl hT hO t3 (by omega) hn7 m1 (fun B hS => zfeas hS) (fun B H1 hS hm hG => ?_)
  have e129 := zmE hm (a := 129) (fun _ => rfl)
  have e110 := zmE hm (a := 110) (fun _ => rfl)
  have hf := zfeas (D := zA H 12) hS
  refine zc_mrenew (n := n) (zmd_lay hm hL) hn (by rw [hm.2.2.2 106 28 rfl]; exact m2) (by rw [e129]; intro j hj; rw [t4 j hj]; have := t1 j hj; omega) hd (fun B' H2 hS' hm2 hG' => ?_)
  rw [e110] at hG' ⊢
  have hKK : ∀ k e : Nat, k < 8 → e < 8 → zKc B (zA H 12) k e = zKc B' (zA H 110) k e := by
    intro k e hk he
    obtain ⟨p, hp, hP, hB⟩ := hS k hk
    obtain ⟨p', hp', hP', hB'⟩ := hS' k hk
    have ep : p = p' := zbt_ext hp hp' (fun q hq => by
      rw [hP q hq, hP' q hq, e129]
      refine zEx_c (fun k e hk he => ?_) n k q 8 0 0 (by omega)
      rw [t5 k hk, t4 (8 * k + e) (by omega), zsm_c 8 (fun e he => t4 (8 * k + e) (by omega))])
    subst ep
    unfold zKc
    rw [hB, hB', (hiD k hk).1]
  obtain ⟨o1, o2⟩ := zGb_o (B := B) (D := zA H 12) 8 0 (by omega) (by omega) rfl hf
  have n12 : ∀ j : Nat, j < 8 → zA H2 12 j = (zGb (zKc B (zA H 12)) 8 0 j : Int) := fun j hj => by rw [hm2.2.2.2 12 j rfl]; exact hG j hj
  refine ⟨(zMn_c hKK 8 0 (by omega)).symm, zmd_tr (zmd_up hm rfl) (zmd_up hm2 rfl), fun k hk => ?_, fun k hk => ?_⟩
  · have := o1 k (by omega) hk
    rw [hG' k hk, n12 k hk, zGb_c hKK 8 0 (by omega) k]
    rw [zGb_c hKK 8 0 (by omega) k] at this
    clear hS hS'
    omega
  · rcases o2 k hk with a | ⟨j, a, b, c⟩
    · rw [zbt_0 k hk] at a; cases a
    · exact ⟨j, b, by rw [n12 j b, c]⟩
