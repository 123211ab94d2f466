set_option maxRecDepth 100000 in
theorem zc_books {xs : Nat → Int} {L : Nat} {H0 : zH} {n : Nat} (hL0 : zLay H0) (hn : 1 ≤ n) (hbad : zA H0 106 28 = (n : Int) - 1) (hT : ∀ j : Nat, j < 64 → 0 ≤ zA H0 129 j ∧ zA H0 129 j ≤ 300) {W : Nat → Nat → Nat} (hW : W = (fun k d => (zsm (fun e => zA H0 129 (8 * k + e)) 8 - zA H0 129 (8 * k + d)).toNat)) : ∀ r : Nat, r ≤ 8 → ∀ (d : Nat) (m w : Nat) (right all_ F : Int) (H : zH) (Q : zQ), r ≤ d → m < 256 → zpc m = 8 - r → all_ - right = w → 0 ≤ right → all_ ≤ 2400 * ((8 - r : Nat) : Int) → zmd (zin [130, 131] [(106, 30)]) H0 H → zA H 106 30 = F → 0 ≤ F → F + 8 ^ r ≤ 100000000 → (∀ c : Nat, c < 8 - r → 0 ≤ zA H 130 c ∧ zA H 130 c ≤ 7) → (∀ c : Nat, c < 8 → 0 ≤ zA H 131 c ∧ zA H 131 c ≤ 255) → (∀ H' : zH, zmd (zin [130, 131] [(106, 30)]) H0 H' → zA H' 106 30 = F + zNn W n r m w → (∀ c : Nat, c < 8 - r → zA H' 130 c = zA H 130 c) → (∀ c : Nat, c < 8 → (0 ≤ zA H' 131 c ∧ zA H' 131 c ≤ 255) ∧ ∀ q : Nat, q < 8 → (zbit (zA H' 131 c) q = 1 ↔ (zbit (zA H 131 c) q = 1 ∨ (c < 8 - r ∧ 0 < zNn W n r m w ∧ zA H 130 c = q ∨ 8 - r ≤ c ∧ zEx W n r m w c q)))) → Q 0 H') → zEm xs L d 0 0 243 [zr (some 106), zi ((8 - r : Nat) : Int), zi m, zi right, zi all_] H Q
  | 0, _ => by
    intro d m w right all_ F H Q hd hm2 hpc hw hr0 hal hm hF hF0 hFb hord hseen hQ
    have hL := zmd_lay hm hL0
    rw [show ((8 - 0 : Nat) : Int) = 8 from rfl]
    refine zem_243 (zgo_at [31] 8 ?_)
    try simp -implicitDefEqProofs only [zgn_0, zgn_s, zct_0, zct_s, Nat.reduceEqDiff, Nat.reduceBEq, Nat.reduceAdd, Nat.reduceSub, Nat.reduceMul, Int.reduceAdd, Int.reduceSub, Int.reduceMul, Int.reduceNeg, Int.reduceLT, Int.reduceLE, Int.reduceEq, Nat.zero_add, true_and, and_true, false_and, and_false, true_imp_iff, false_imp_iff, not_true_eq_false, not_false_eq_true, if_true, if_false, Bool.false_eq_true, ite_true, ite_false, reduceIte, eq_self, Int.toNat_natCast, zst_0, zst_1, zst_2, zst_3, zst_4, true_or, or_true, or_false, false_or, ze_243_0, zB_243_0, ze_243_12, zB_243_12, ze_243_31, zB_243_31, ze_243_63, zB_243_63, ze_243_64, zB_243_64, ze_243_70, zB_243_70, ze_243_100, zB_243_100, ze_243_103, zB_243_103, ze_243_123, zB_243_123, ze_243_163, zB_243_163, ze_243_169, zB_243_169, zbr_t, zbr_f, zrun_c, zmI_s, zmL_s, zmR_s, zgt_0, zgt_s, zln_0, zln_s, zs1_0, zs1_1i, zs1_1r, zs1_1n, zs1_1l, zs1_s, zs2_0, zs2_1i, zs2_1r, zs2_1n, zs2_1l, zs2_s, zcn_eq, zcn_ne, zcn_lt, zcn_ge, zcn_gt, zcn_le, zpu_0, zpu_1, zpu_2, zx_iconst, zx_lconst, zx_ldc, zx_ldc2, zx_null, zx_iload, zx_lload, zx_aload, zx_istore, zx_lstore, zx_astore, zx_iinc, zx_iadd, zx_isub, zx_imul, zx_idiv, zx_irem, zx_iand, zx_ior, zx_ixor, zx_ishl, zx_ishr, zx_iushr, zx_i2b, zx_i2l, zx_l2i, zx_ladd, zx_lmul, zx_ldiv, zx_lrem, zx_land, zx_lor, zx_lshl, zx_lshr, zx_lcmp, zx_dupi, zx_dupr, zx_dup2l, zx_dup2i, zx_pop, zx_ifc, zx_icmp, zx_ifnullN, zx_ifnullS, zx_ifnonN, zx_ifnonS, zx_goto, zx_gotow, zx_switch, zx_iaload, zx_baload, zx_laload, zx_aaload, zx_iastore, zx_bastore, zx_lastore, zx_aastore, zx_alen, zx_newarray, zx_anewarray, zx_new, zx_getI, zx_getL, zx_getR, zx_putI, zx_putZ, zx_putL, zx_putR, zx_callS, zx_callV, zx_objinit, zx_cpyi, zx_cpyl, zx_mmax, zx_mmin, zx_mminl, zx_ireturn, zx_areturn, zx_lreturn, zx_return, zcs_0, zcs_1, zcv_1, zcs_2, zcv_2, zcs_3, zcv_3, zcs_4, zcv_4, zcs_5, zcv_5, zcs_6, zcv_6, zcs_7, zcv_7, Int.reduceToNat, Nat.reduceDiv, Nat.reduceMod, zJ, zC, zK_wA, zN_wA, zR_wA, zS_wA, zA_wA, zK_wR, zN_wR, zR_wR, zS_wR, zA_wR, zK_cp, zN_cp, zR_cp, zS_cp, zA_cp, zK_mp, zN_mp, zR_mp, zS_mp, zA_mp, zfa, zfmm, zfa_1, zfb_1, zfa_2, zfb_2, zfa_3, zfb_3, zfa_4, zfb_4, zfa_5, zfb_5, zfa_6, zfb_6, zfa_7, zfb_7, zfa_8, zfb_8, zfa_9, zfb_9, zfa_10, zfb_10, zfa_12, zfb_12, zfa_20, zfb_20, zfa_21, zfb_21, zfa_30, zfb_30, zfa_48, zfb_48, zfa_60, zfb_60, zfa_61, zfb_61, zfa_65, zfb_65, zfa_97, zfb_97, zfa_100, zfb_100, zfa_120, zfb_120, zfa_124, zfb_124, zfa_500, zfb_500, zfa_792, zfb_792, zfa_2989, zfb_2989, zfm_2, zfn_2, zfm_3, zfn_3, zfm_4, zfn_4, zfm_6, zfn_6, zfm_7, zfn_7, zfm_8, zfn_8, zfm_12, zfn_12, zfm_49, zfn_49, zfm_60, zfn_60, zfm_61, zfn_61, zfm_792, zfn_792, zfm_2989, zfn_2989, Int.zero_add, Int.add_zero, Int.zero_mul, Int.mul_zero, Int.one_mul, Int.mul_one, lk_106 (zmd_lay hm hL0), lr_106_29 (zmd_lay hm hL0), lk_129 (zmd_lay hm hL0), ln_129 (zmd_lay hm hL0), hm.2.2.2 106 28 rfl, hm.2.2.2 129 _ rfl]
    rw [hF, hbad]
    repeat (with_reducible refine And.intro ?_ ?_; · first | omega | (simp only [z32, z64]; omega))
    refine zbr_i (fun q => ?_) (fun q => ?_)
    · have hwn : w < n := by omega
      repeat (with_reducible refine And.intro ?_ ?_; · first | omega | (simp only [z32, z64]; omega))
      have hN : zNn W n 0 m w = 1 := by unfold zNn; rw [if_pos hwn]
      refine zl_bkS (H0 := zwA H 106 30 (F + 1)) (zLay_wA hL _ _ _) (fun c hc => hord c (by omega)) (fun H' hm' hA' => ?_) _ 0 0 _ rfl (by omega) rfl (zmd_rf _ _) (fun j hj => by rw [if_neg (by omega)])
      refine hQ _ (zmd_tr (zmd_w hm rfl) (zmd_up hm' rfl)) (by rw [hN, hm'.2.2.2 106 30 rfl]; rfl) (fun c hc => by rw [hm'.2.2.2 130 c rfl]; rfl) (fun c hc => ?_)
      have ho := hord c (by omega)
      obtain ⟨b1, b2⟩ := zbo (hseen c hc) ho
      have e1 : zA H' 131 c = zor (zA H 131 c) (zshl 1 (zA H 130 c)) := by
        rw [hA' c hc, zA_wA, zA_wA, if_neg (by omega), if_neg (by omega)]
      rw [e1]
      refine ⟨b1, fun q hq => ?_⟩
      rw [b2 q hq, hN]
      constructor
      · rintro (a | a)
        · exact Or.inl a
        · exact Or.inr (Or.inl ⟨by omega, by omega, a⟩)
      · rintro (a | ⟨-, -, a⟩ | ⟨a, a2⟩)
        · exact Or.inl a
        · exact Or.inr a
        · exact absurd a2 (by unfold zEx; exact id)
    · have hwn : ¬ w < n := by omega
      refine hQ H hm (by rw [zNn_0 hwn, hF, Int.add_zero]) (fun c hc => rfl) (fun c hc => ⟨hseen c hc, fun q hq => ?_⟩)
      rw [zNn_0 hwn]
      constructor
      · exact Or.inl
      · rintro (a | ⟨-, a, -⟩ | ⟨a, a2⟩)
        · exact a
        · omega
        · exact absurd a2 (by unfold zEx; exact id)
  | r + 1, hr8 => by
    intro d m w right all_ F H Q hd hm2 hpc hw hr0 hal hm hF hF0 hFb hord hseen hQ
    have hL := zmd_lay hm hL0
    have ek : 8 - (r + 1) = 7 - r := by omega
    rw [ek] at hord hQ hal hpc ⊢
    refine zem_243 (zgo_at [70] 8 ?_)
    try simp -implicitDefEqProofs only [zgn_0, zgn_s, zct_0, zct_s, Nat.reduceEqDiff, Nat.reduceBEq, Nat.reduceAdd, Nat.reduceSub, Nat.reduceMul, Int.reduceAdd, Int.reduceSub, Int.reduceMul, Int.reduceNeg, Int.reduceLT, Int.reduceLE, Int.reduceEq, Nat.zero_add, true_and, and_true, false_and, and_false, true_imp_iff, false_imp_iff, not_true_eq_false, not_false_eq_true, if_true, if_false, Bool.false_eq_true, ite_true, ite_false, reduceIte, eq_self, Int.toNat_natCast, zst_0, zst_1, zst_2, zst_3, zst_4, true_or, or_true, or_false, false_or, ze_243_0, zB_243_0, ze_243_12, zB_243_12, ze_243_31, zB_243_31, ze_243_63, zB_243_63, ze_243_64, zB_243_64, ze_243_70, zB_243_70, ze_243_100, zB_243_100, ze_243_103, zB_243_103, ze_243_123, zB_243_123, ze_243_163, zB_243_163, ze_243_169, zB_243_169, zbr_t, zbr_f, zrun_c, zmI_s, zmL_s, zmR_s, zgt_0, zgt_s, zln_0, zln_s, zs1_0, zs1_1i, zs1_1r, zs1_1n, zs1_1l, zs1_s, zs2_0, zs2_1i, zs2_1r, zs2_1n, zs2_1l, zs2_s, zcn_eq, zcn_ne, zcn_lt, zcn_ge, zcn_gt, zcn_le, zpu_0, zpu_1, zpu_2, zx_iconst, zx_lconst, zx_ldc, zx_ldc2, zx_null, zx_iload, zx_lload, zx_aload, zx_istore, zx_lstore, zx_astore, zx_iinc, zx_iadd, zx_isub, zx_imul, zx_idiv, zx_irem, zx_iand, zx_ior, zx_ixor, zx_ishl, zx_ishr, zx_iushr, zx_i2b, zx_i2l, zx_l2i, zx_ladd, zx_lmul, zx_ldiv, zx_lrem, zx_land, zx_lor, zx_lshl, zx_lshr, zx_lcmp, zx_dupi, zx_dupr, zx_dup2l, zx_dup2i, zx_pop, zx_ifc, zx_icmp, zx_ifnullN, zx_ifnullS, zx_ifnonN, zx_ifnonS, zx_goto, zx_gotow, zx_switch, zx_iaload, zx_baload, zx_laload, zx_aaload, zx_iastore, zx_bastore, zx_lastore, zx_aastore, zx_alen, zx_newarray, zx_anewarray, zx_new, zx_getI, zx_getL, zx_getR, zx_putI, zx_putZ, zx_putL, zx_putR, zx_callS, zx_callV, zx_objinit, zx_cpyi, zx_cpyl, zx_mmax, zx_mmin, zx_mminl, zx_ireturn, zx_areturn, zx_lreturn, zx_return, zcs_0, zcs_1, zcv_1, zcs_2, zcv_2, zcs_3, zcv_3, zcs_4, zcv_4, zcs_5, zcv_5, zcs_6, zcv_6, zcs_7, zcv_7, Int.reduceToNat, Nat.reduceDiv, Nat.reduceMod, zJ, zC, zK_wA, zN_wA, zR_wA, zS_wA, zA_wA, zK_wR, zN_wR, zR_wR, zS_wR, zA_wR, zK_cp, zN_cp, zR_cp, zS_cp, zA_cp, zK_mp, zN_mp, zR_mp, zS_mp, zA_mp, zfa, zfmm, zfa_1, zfb_1, zfa_2, zfb_2, zfa_3, zfb_3, zfa_4, zfb_4, zfa_5, zfb_5, zfa_6, zfb_6, zfa_7, zfb_7, zfa_8, zfb_8, zfa_9, zfb_9, zfa_10, zfb_10, zfa_12, zfb_12, zfa_20, zfb_20, zfa_21, zfb_21, zfa_30, zfb_30, zfa_48, zfb_48, zfa_60, zfb_60, zfa_61, zfb_61, zfa_65, zfb_65, zfa_97, zfb_97, zfa_100, zfb_100, zfa_120, zfb_120, zfa_124, zfb_124, zfa_500, zfb_500, zfa_792, zfb_792, zfa_2989, zfb_2989, zfm_2, zfn_2, zfm_3, zfn_3, zfm_4, zfn_4, zfm_6, zfn_6, zfm_7, zfn_7, zfm_8, zfn_8, zfm_12, zfn_12, zfm_49, zfn_49, zfm_60, zfn_60, zfm_61, zfn_61, zfm_792, zfn_792, zfm_2989, zfn_2989, Int.zero_add, Int.add_zero, Int.zero_mul, Int.mul_zero, Int.one_mul, Int.mul_one, lk_106 (zmd_lay hm hL0), lr_106_29 (zmd_lay hm hL0), lk_129 (zmd_lay hm hL0), ln_129 (zmd_lay hm hL0), hm.2.2.2 106 28 rfl, hm.2.2.2 129 _ rfl]
    rw [hbad]
    repeat (with_reducible refine And.intro ?_ ?_; · first | omega | (simp only [z32, z64]; omega))
    refine zbr_i (fun q => ?_) (fun q => ?_)
    · have hwn : w < n := by omega
      refine zbr_i (fun _ => ?_) (fun q1 => by omega)
      have e129 := zmE hm (a := 129) (fun _ => rfl)
      refine zl_bkT hL (by omega) (by rw [e129]; exact hT) ?_ _ 0 rfl (by omega)
      rw [e129]
      refine zgo_at [103] 8 ?_
      try simp -implicitDefEqProofs only [zgn_0, zgn_s, zct_0, zct_s, Nat.reduceEqDiff, Nat.reduceBEq, Nat.reduceAdd, Nat.reduceSub, Nat.reduceMul, Int.reduceAdd, Int.reduceSub, Int.reduceMul, Int.reduceNeg, Int.reduceLT, Int.reduceLE, Int.reduceEq, Nat.zero_add, true_and, and_true, false_and, and_false, true_imp_iff, false_imp_iff, not_true_eq_false, not_false_eq_true, if_true, if_false, Bool.false_eq_true, ite_true, ite_false, reduceIte, eq_self, Int.toNat_natCast, zst_0, zst_1, zst_2, zst_3, zst_4, true_or, or_true, or_false, false_or, ze_243_0, zB_243_0, ze_243_12, zB_243_12, ze_243_31, zB_243_31, ze_243_63, zB_243_63, ze_243_64, zB_243_64, ze_243_70, zB_243_70, ze_243_100, zB_243_100, ze_243_103, zB_243_103, ze_243_123, zB_243_123, ze_243_163, zB_243_163, ze_243_169, zB_243_169, zbr_t, zbr_f, zrun_c, zmI_s, zmL_s, zmR_s, zgt_0, zgt_s, zln_0, zln_s, zs1_0, zs1_1i, zs1_1r, zs1_1n, zs1_1l, zs1_s, zs2_0, zs2_1i, zs2_1r, zs2_1n, zs2_1l, zs2_s, zcn_eq, zcn_ne, zcn_lt, zcn_ge, zcn_gt, zcn_le, zpu_0, zpu_1, zpu_2, zx_iconst, zx_lconst, zx_ldc, zx_ldc2, zx_null, zx_iload, zx_lload, zx_aload, zx_istore, zx_lstore, zx_astore, zx_iinc, zx_iadd, zx_isub, zx_imul, zx_idiv, zx_irem, zx_iand, zx_ior, zx_ixor, zx_ishl, zx_ishr, zx_iushr, zx_i2b, zx_i2l, zx_l2i, zx_ladd, zx_lmul, zx_ldiv, zx_lrem, zx_land, zx_lor, zx_lshl, zx_lshr, zx_lcmp, zx_dupi, zx_dupr, zx_dup2l, zx_dup2i, zx_pop, zx_ifc, zx_icmp, zx_ifnullN, zx_ifnullS, zx_ifnonN, zx_ifnonS, zx_goto, zx_gotow, zx_switch, zx_iaload, zx_baload, zx_laload, zx_aaload, zx_iastore, zx_bastore, zx_lastore, zx_aastore, zx_alen, zx_newarray, zx_anewarray, zx_new, zx_getI, zx_getL, zx_getR, zx_putI, zx_putZ, zx_putL, zx_putR, zx_callS, zx_callV, zx_objinit, zx_cpyi, zx_cpyl, zx_mmax, zx_mmin, zx_mminl, zx_ireturn, zx_areturn, zx_lreturn, zx_return, zcs_0, zcs_1, zcv_1, zcs_2, zcv_2, zcs_3, zcv_3, zcs_4, zcv_4, zcs_5, zcv_5, zcs_6, zcv_6, zcs_7, zcv_7, Int.reduceToNat, Nat.reduceDiv, Nat.reduceMod, zJ, zC, zK_wA, zN_wA, zR_wA, zS_wA, zA_wA, zK_wR, zN_wR, zR_wR, zS_wR, zA_wR, zK_cp, zN_cp, zR_cp, zS_cp, zA_cp, zK_mp, zN_mp, zR_mp, zS_mp, zA_mp, zfa, zfmm, zfa_1, zfb_1, zfa_2, zfb_2, zfa_3, zfb_3, zfa_4, zfb_4, zfa_5, zfb_5, zfa_6, zfb_6, zfa_7, zfb_7, zfa_8, zfb_8, zfa_9, zfb_9, zfa_10, zfb_10, zfa_12, zfb_12, zfa_20, zfb_20, zfa_21, zfb_21, zfa_30, zfb_30, zfa_48, zfb_48, zfa_60, zfb_60, zfa_61, zfb_61, zfa_65, zfb_65, zfa_97, zfb_97, zfa_100, zfb_100, zfa_120, zfb_120, zfa_124, zfb_124, zfa_500, zfb_500, zfa_792, zfb_792, zfa_2989, zfb_2989, zfm_2, zfn_2, zfm_3, zfn_3, zfm_4, zfn_4, zfm_6, zfn_6, zfm_7, zfn_7, zfm_8, zfn_8, zfm_12, zfn_12, zfm_49, zfn_49, zfm_60, zfn_60, zfm_61, zfn_61, zfm_792, zfn_792, zfm_2989, zfn_2989, Int.zero_add, Int.add_zero, Int.zero_mul, Int.mul_zero, Int.one_mul, Int.mul_one, lk_106 (zmd_lay hm hL0), lr_106_29 (zmd_lay hm hL0), lk_129 (zmd_lay hm hL0), ln_129 (zmd_lay hm hL0), hm.2.2.2 106 28 rfl, hm.2.2.2 129 _ rfl]
      have key : ∀ (kk e : Nat) (H1 : zH), 8 - e = kk → e ≤ 8 → zmd (zin [130, 131] [(106, 30)]) H0 H1 → zA H1 106 30 = F + zsm (fun e => if zbt1 m e = true then 0 else zNn W n r (m ||| 2 ^ e) (w + W (7 - r) e)) e → (∀ c : Nat, c < 7 - r → zA H1 130 c = zA H 130 c) → (∀ c : Nat, c < 8 → (0 ≤ zA H1 131 c ∧ zA H1 131 c ≤ 255) ∧ ∀ q : Nat, q < 8 → (zbit (zA H1 131 c) q = 1 ↔ (zbit (zA H 131 c) q = 1 ∨ ∃ e' : Nat, e' < e ∧ zbt1 m e' = false ∧ (c < 7 - r ∧ 0 < zNn W n r (m ||| 2 ^ e') (w + W (7 - r) e') ∧ zA H 130 c = q ∨ c = 7 - r ∧ q = e' ∧ 0 < zNn W n r (m ||| 2 ^ e') (w + W (7 - r) e') ∨ 7 - r < c ∧ zEx W n r (m ||| 2 ^ e') (w + W (7 - r) e') c q)))) → zEt xs L d 0 0 false 243 103 [some (zr (some 106)), some (zi (7 - r : Nat)), some (zi m), some (zi right), some (zi all_), some (zi (zsm (fun e => zA H0 129 (8 * (7 - r) + e)) 8)), some (zi e)] [] H1 Q := by
        intro kk
        induction kk using Nat.strongRecOn with
        | ind kk ih =>
          intro e H1 hkk he hm1 hF1 ho1 hs1
          have hL1 := zmd_lay hm1 hL0
          refine zgo_at [103, 163] 8 ?_
          try simp -implicitDefEqProofs only [zgn_0, zgn_s, zct_0, zct_s, Nat.reduceEqDiff, Nat.reduceBEq, Nat.reduceAdd, Nat.reduceSub, Nat.reduceMul, Int.reduceAdd, Int.reduceSub, Int.reduceMul, Int.reduceNeg, Int.reduceLT, Int.reduceLE, Int.reduceEq, Nat.zero_add, true_and, and_true, false_and, and_false, true_imp_iff, false_imp_iff, not_true_eq_false, not_false_eq_true, if_true, if_false, Bool.false_eq_true, ite_true, ite_false, reduceIte, eq_self, Int.toNat_natCast, zst_0, zst_1, zst_2, zst_3, zst_4, true_or, or_true, or_false, false_or, ze_243_0, zB_243_0, ze_243_12, zB_243_12, ze_243_31, zB_243_31, ze_243_63, zB_243_63, ze_243_64, zB_243_64, ze_243_70, zB_243_70, ze_243_100, zB_243_100, ze_243_103, zB_243_103, ze_243_123, zB_243_123, ze_243_163, zB_243_163, ze_243_169, zB_243_169, zbr_t, zbr_f, zrun_c, zmI_s, zmL_s, zmR_s, zgt_0, zgt_s, zln_0, zln_s, zs1_0, zs1_1i, zs1_1r, zs1_1n, zs1_1l, zs1_s, zs2_0, zs2_1i, zs2_1r, zs2_1n, zs2_1l, zs2_s, zcn_eq, zcn_ne, zcn_lt, zcn_ge, zcn_gt, zcn_le, zpu_0, zpu_1, zpu_2, zx_iconst, zx_lconst, zx_ldc, zx_ldc2, zx_null, zx_iload, zx_lload, zx_aload, zx_istore, zx_lstore, zx_astore, zx_iinc, zx_iadd, zx_isub, zx_imul, zx_idiv, zx_irem, zx_iand, zx_ior, zx_ixor, zx_ishl, zx_ishr, zx_iushr, zx_i2b, zx_i2l, zx_l2i, zx_ladd, zx_lmul, zx_ldiv, zx_lrem, zx_land, zx_lor, zx_lshl, zx_lshr, zx_lcmp, zx_dupi, zx_dupr, zx_dup2l, zx_dup2i, zx_pop, zx_ifc, zx_icmp, zx_ifnullN, zx_ifnullS, zx_ifnonN, zx_ifnonS, zx_goto, zx_gotow, zx_switch, zx_iaload, zx_baload, zx_laload, zx_aaload, zx_iastore, zx_bastore, zx_lastore, zx_aastore, zx_alen, zx_newarray, zx_anewarray, zx_new, zx_getI, zx_getL, zx_getR, zx_putI, zx_putZ, zx_putL, zx_putR, zx_callS, zx_callV, zx_objinit, zx_cpyi, zx_cpyl, zx_mmax, zx_mmin, zx_mminl, zx_ireturn, zx_areturn, zx_lreturn, zx_return, zcs_0, zcs_1, zcv_1, zcs_2, zcv_2, zcs_3, zcv_3, zcs_4, zcv_4, zcs_5, zcv_5, zcs_6, zcv_6, zcs_7, zcv_7, Int.reduceToNat, Nat.reduceDiv, Nat.reduceMod, zJ, zC, zK_wA, zN_wA, zR_wA, zS_wA, zA_wA, zK_wR, zN_wR, zR_wR, zS_wR, zA_wR, zK_cp, zN_cp, zR_cp, zS_cp, zA_cp, zK_mp, zN_mp, zR_mp, zS_mp, zA_mp, zfa, zfmm, zfa_1, zfb_1, zfa_2, zfb_2, zfa_3, zfb_3, zfa_4, zfb_4, zfa_5, zfb_5, zfa_6, zfb_6, zfa_7, zfb_7, zfa_8, zfb_8, zfa_9, zfb_9, zfa_10, zfb_10, zfa_12, zfb_12, zfa_20, zfb_20, zfa_21, zfb_21, zfa_30, zfb_30, zfa_48, zfb_48, zfa_60, zfb_60, zfa_61, zfb_61, zfa_65, zfb_65, zfa_97, zfb_97, zfa_100, zfb_100, zfa_120, zfb_120, zfa_124, zfb_124, zfa_500, zfb_500, zfa_792, zfb_792, zfa_2989, zfb_2989, zfm_2, zfn_2, zfm_3, zfn_3, zfm_4, zfn_4, zfm_6, zfn_6, zfm_7, zfn_7, zfm_8, zfn_8, zfm_12, zfn_12, zfm_49, zfn_49, zfm_60, zfn_60, zfm_61, zfn_61, zfm_792, zfn_792, zfm_2989, zfn_2989, Int.zero_add, Int.add_zero, Int.zero_mul, Int.mul_zero, Int.one_mul, Int.mul_one, lk_106 (zmd_lay hm1 hL0), lr_106_29 (zmd_lay hm1 hL0), lk_129 (zmd_lay hm1 hL0), ln_129 (zmd_lay hm1 hL0), hm1.2.2.2 106 28 rfl, hm1.2.2.2 129 _ rfl, lr_106_31 hL1, lk_130 hL1, ln_130 hL1]
          refine zbr_i (fun q0 => ?_) (fun q0 => ?_)
          · have e8 : e = 8 := by omega
            subst e8
            refine hQ H1 hm1 (by rw [hF1, zNn_s, if_pos hwn]) ho1 (fun c hc => ⟨(hs1 c hc).1, fun q hq => ?_⟩)
            rw [(hs1 c hc).2 q hq, zNn_p W hwn, zEx_s]
            refine or_congr Iff.rfl ?_
            constructor
            · rintro ⟨e', a1, a2, (⟨a3, a4, a5⟩ | ⟨a3, a4, a5⟩ | ⟨a3, a4⟩)⟩
              · exact Or.inl ⟨a3, ⟨e', a1, a2, a4⟩, a5⟩
              · exact Or.inr ⟨by omega, hwn, e', a1, a2, Or.inl ⟨a3, a4, a5⟩⟩
              · exact Or.inr ⟨by omega, hwn, e', a1, a2, Or.inr ⟨a3, a4⟩⟩
            · rintro (⟨a3, ⟨e', a1, a2, a4⟩, a5⟩ | ⟨-, -, e', a1, a2, (⟨a3, a4, a5⟩ | ⟨a3, a4⟩)⟩)
              · exact ⟨e', a1, a2, Or.inl ⟨a3, a4, a5⟩⟩
              · exact ⟨e', a1, a2, Or.inr (Or.inl ⟨a3, a4, a5⟩)⟩
              · exact ⟨e', a1, a2, Or.inr (Or.inr ⟨a3, a4⟩)⟩
          · have nx : ∀ H2 : zH, zmd (zin [130, 131] [(106, 30)]) H0 H2 → zA H2 106 30 = F + zsm (fun e => if zbt1 m e = true then 0 else zNn W n r (m ||| 2 ^ e) (w + W (7 - r) e)) (e + 1) → (∀ c : Nat, c < 7 - r → zA H2 130 c = zA H 130 c) → (∀ c : Nat, c < 8 → (0 ≤ zA H2 131 c ∧ zA H2 131 c ≤ 255) ∧ ∀ q : Nat, q < 8 → (zbit (zA H2 131 c) q = 1 ↔ (zbit (zA H 131 c) q = 1 ∨ ∃ e' : Nat, e' < e + 1 ∧ zbt1 m e' = false ∧ (c < 7 - r ∧ 0 < zNn W n r (m ||| 2 ^ e') (w + W (7 - r) e') ∧ zA H 130 c = q ∨ c = 7 - r ∧ q = e' ∧ 0 < zNn W n r (m ||| 2 ^ e') (w + W (7 - r) e') ∨ 7 - r < c ∧ zEx W n r (m ||| 2 ^ e') (w + W (7 - r) e') c q)))) → zEt xs L d 0 0 false 243 163 [some (zr (some 106)), some (zi (7 - r : Nat)), some (zi m), some (zi right), some (zi all_), some (zi (zsm (fun e => zA H0 129 (8 * (7 - r) + e)) 8)), some (zi e)] [] H2 Q := by
              intro H2 k1 k2 k3 k4
              refine zgo_at [103] 8 ?_
              try simp -implicitDefEqProofs only [zgn_0, zgn_s, zct_0, zct_s, Nat.reduceEqDiff, Nat.reduceBEq, Nat.reduceAdd, Nat.reduceSub, Nat.reduceMul, Int.reduceAdd, Int.reduceSub, Int.reduceMul, Int.reduceNeg, Int.reduceLT, Int.reduceLE, Int.reduceEq, Nat.zero_add, true_and, and_true, false_and, and_false, true_imp_iff, false_imp_iff, not_true_eq_false, not_false_eq_true, if_true, if_false, Bool.false_eq_true, ite_true, ite_false, reduceIte, eq_self, Int.toNat_natCast, zst_0, zst_1, zst_2, zst_3, zst_4, true_or, or_true, or_false, false_or, ze_243_0, zB_243_0, ze_243_12, zB_243_12, ze_243_31, zB_243_31, ze_243_63, zB_243_63, ze_243_64, zB_243_64, ze_243_70, zB_243_70, ze_243_100, zB_243_100, ze_243_103, zB_243_103, ze_243_123, zB_243_123, ze_243_163, zB_243_163, ze_243_169, zB_243_169, zbr_t, zbr_f, zrun_c, zmI_s, zmL_s, zmR_s, zgt_0, zgt_s, zln_0, zln_s, zs1_0, zs1_1i, zs1_1r, zs1_1n, zs1_1l, zs1_s, zs2_0, zs2_1i, zs2_1r, zs2_1n, zs2_1l, zs2_s, zcn_eq, zcn_ne, zcn_lt, zcn_ge, zcn_gt, zcn_le, zpu_0, zpu_1, zpu_2, zx_iconst, zx_lconst, zx_ldc, zx_ldc2, zx_null, zx_iload, zx_lload, zx_aload, zx_istore, zx_lstore, zx_astore, zx_iinc, zx_iadd, zx_isub, zx_imul, zx_idiv, zx_irem, zx_iand, zx_ior, zx_ixor, zx_ishl, zx_ishr, zx_iushr, zx_i2b, zx_i2l, zx_l2i, zx_ladd, zx_lmul, zx_ldiv, zx_lrem, zx_land, zx_lor, zx_lshl, zx_lshr, zx_lcmp, zx_dupi, zx_dupr, zx_dup2l, zx_dup2i, zx_pop, zx_ifc, zx_icmp, zx_ifnullN, zx_ifnullS, zx_ifnonN, zx_ifnonS, zx_goto, zx_gotow, zx_switch, zx_iaload, zx_baload, zx_laload, zx_aaload, zx_iastore, zx_bastore, zx_lastore, zx_aastore, zx_alen, zx_newarray, zx_anewarray, zx_new, zx_getI, zx_getL, zx_getR, zx_putI, zx_putZ, zx_putL, zx_putR, zx_callS, zx_callV, zx_objinit, zx_cpyi, zx_cpyl, zx_mmax, zx_mmin, zx_mminl, zx_ireturn, zx_areturn, zx_lreturn, zx_return, zcs_0, zcs_1, zcv_1, zcs_2, zcv_2, zcs_3, zcv_3, zcs_4, zcv_4, zcs_5, zcv_5, zcs_6, zcv_6, zcs_7, zcv_7, Int.reduceToNat, Nat.reduceDiv, Nat.reduceMod, zJ, zC, zK_wA, zN_wA, zR_wA, zS_wA, zA_wA, zK_wR, zN_wR, zR_wR, zS_wR, zA_wR, zK_cp, zN_cp, zR_cp, zS_cp, zA_cp, zK_mp, zN_mp, zR_mp, zS_mp, zA_mp, zfa, zfmm, zfa_1, zfb_1, zfa_2, zfb_2, zfa_3, zfb_3, zfa_4, zfb_4, zfa_5, zfb_5, zfa_6, zfb_6, zfa_7, zfb_7, zfa_8, zfb_8, zfa_9, zfb_9, zfa_10, zfb_10, zfa_12, zfb_12, zfa_20, zfb_20, zfa_21, zfb_21, zfa_30, zfb_30, zfa_48, zfb_48, zfa_60, zfb_60, zfa_61, zfb_61, zfa_65, zfb_65, zfa_97, zfb_97, zfa_100, zfb_100, zfa_120, zfb_120, zfa_124, zfb_124, zfa_500, zfb_500, zfa_792, zfb_792, zfa_2989, zfb_2989, zfm_2, zfn_2, zfm_3, zfn_3, zfm_4, zfn_4, zfm_6, zfn_6, zfm_7, zfn_7, zfm_8, zfn_8, zfm_12, zfn_12, zfm_49, zfn_49, zfm_60, zfn_60, zfm_61, zfn_61, zfm_792, zfn_792, zfm_2989, zfn_2989, Int.zero_add, Int.add_zero, Int.zero_mul, Int.mul_zero, Int.one_mul, Int.mul_one]
              repeat (with_reducible refine And.intro ?_ ?_; · first | omega | (simp only [z32, z64]; omega))
              exact ih _ (by omega) (e + 1) H2 rfl (by omega) k1 k2 k3 k4
            rw [zsh_b m hm2 e (by omega)]
            by_cases hb : zbt1 m e = true
            · rw [if_pos hb]
              refine zbr_i (fun q1 => absurd rfl q1) (fun _ => ?_)
              refine nx H1 hm1 (by rw [zsm_s, if_pos hb, Int.add_zero]; exact hF1) ho1 (fun c hc => ⟨(hs1 c hc).1, fun q hq => ?_⟩)
              rw [(hs1 c hc).2 q hq]
              refine or_congr Iff.rfl (exists_congr (fun e' => ?_))
              constructor
              · rintro ⟨a1, a2⟩; exact ⟨by omega, a2⟩
              · rintro ⟨a1, a2, a3⟩
                refine ⟨?_, a2, a3⟩
                rcases Nat.lt_or_ge e' e with g | g
                · exact g
                · rw [show e' = e by omega, hb] at a2; cases a2
            · rw [if_neg hb]
              refine zbr_i (fun _ => ?_) (fun q1 => by omega)
              have hbf : zbt1 m e = false := by simpa using hb
              have hz := zor_m m hm2 e (by omega)
              have hsm := zsm_b (f := (fun e => zA H0 129 (8 * (7 - r) + e))) (B := 300) 8 (fun t ht => hT _ (by omega))
              have ht := hT (8 * (7 - r) + e) (by omega)
              have hge := zsm_ge (f := (fun e => zA H0 129 (8 * (7 - r) + e))) 8 (fun t ht => (hT _ (by omega)).1) e (by omega)
              rw [zor1 hm2 (by omega)]
              repeat (with_reducible refine And.intro ?_ ?_; · first | omega | (simp only [z32, z64]; omega))
              have hm1' : zmd (zin [130, 131] [(106, 30)]) H0 (zwA H1 130 (7 - r) e) := zmd_w hm1 rfl
              have hsb := zsm_b (f := (fun e => if zbt1 m e = true then 0 else zNn W n r (m ||| 2 ^ e) (w + W (7 - r) e))) (B := 8 ^ r) e (fun t ht => by
                split
                · exact ⟨Int.le_refl 0, Int.pow_nonneg (by decide)⟩
                · exact zNn_b W n r _ _)
              have hp8 : (8 : Int) ^ (r + 1) = 8 ^ r * 8 := Int.pow_succ 8 r
              have hpn : (0 : Int) ≤ 8 ^ r := Int.pow_nonneg (by decide)
              have hmul : (8 : Int) ^ r * e ≤ 8 ^ r * 7 := Int.mul_le_mul_of_nonneg_left (by omega) hpn
              have e7 : ((7 - r + 1 : Nat) : Int) = ((8 - r : Nat) : Int) := by omega
              rw [e7]
              have hWe : W (7 - r) e = (zsm (fun e => zA H0 129 (8 * (7 - r) + e)) 8 - zA H0 129 (8 * (7 - r) + e)).toNat := by rw [hW]
              refine zc_books hL0 hn hbad hT hW r (by omega) (d - 1) (m ||| 2 ^ e) (w + W (7 - r) e) _ _ (F + zsm (fun e => if zbt1 m e = true then 0 else zNn W n r (m ||| 2 ^ e) (w + W (7 - r) e)) e) (zwA H1 130 (7 - r) e) _ (by omega) hz.1 (by rw [hz.2.2.2 hbf, hpc]; omega) (by omega) (by omega) (by omega) hm1' hF1 (by omega) (by omega) (fun c hc => ?_) (fun c hc => (hs1 c hc).1) (fun H2 k1 k2 k3 k4 => ?_)
              · rw [zA_wA]
                by_cases ec : c = 7 - r
                · rw [if_pos ⟨rfl, ec⟩]; omega
                · rw [if_neg (fun q => ec q.2), ho1 c (by omega)]; exact hord c (by omega)
              · refine nx H2 k1 (by rw [zsm_s, if_neg hb, k2]; omega) (fun c hc => ?_) (fun c hc => ⟨(k4 c hc).1, fun q hq => ?_⟩)
                · rw [k3 c (by omega), zA_wA, if_neg (by omega), ho1 c hc]
                · rw [(k4 c hc).2 q hq]
                  have hs := (hs1 c hc).2 q hq
                  show zbit (zA H1 131 c) q = 1 ∨ _ ↔ _
                  rw [hs]
                  constructor
                  · rintro ((a | ⟨e', a1, a2, a3⟩) | ⟨a1, a2, a3⟩ | ⟨a1, a2⟩)
                    · exact Or.inl a
                    · exact Or.inr ⟨e', by omega, a2, a3⟩
                    · rw [zA_wA] at a3
                      by_cases ec : c = 7 - r
                      · rw [if_pos ⟨rfl, ec⟩] at a3
                        exact Or.inr ⟨e, by omega, hbf, Or.inr (Or.inl ⟨ec, by omega, a2⟩)⟩
                      · rw [if_neg (fun q => ec q.2), ho1 c (by omega)] at a3
                        exact Or.inr ⟨e, by omega, hbf, Or.inl ⟨by omega, a2, a3⟩⟩
                    · exact Or.inr ⟨e, by omega, hbf, Or.inr (Or.inr ⟨by omega, a2⟩)⟩
                  · rintro (a | ⟨e', a1, a2, a3⟩)
                    · exact Or.inl (Or.inl a)
                    · rcases Nat.lt_or_ge e' e with g | g
                      · exact Or.inl (Or.inr ⟨e', g, a2, a3⟩)
                      · have ee : e' = e := by omega
                        subst ee
                        rcases a3 with ⟨c1, c2, c3⟩ | ⟨c1, c2, c3⟩ | ⟨c1, c2⟩
                        · refine Or.inr (Or.inl ⟨by omega, c2, ?_⟩)
                          rw [zA_wA, if_neg (by omega), ho1 c c1]
                          exact c3
                        · refine Or.inr (Or.inl ⟨by omega, c3, ?_⟩)
                          rw [zA_wA, if_pos ⟨rfl, c1⟩, c2]
                        · exact Or.inr (Or.inr ⟨by omega, c2⟩)
      exact key _ 0 H rfl (by omega) hm (by rw [hF]; simp [zsm]) (fun c hc => rfl) (fun c hc => ⟨hseen c hc, fun q hq => ⟨Or.inl, fun h => by rcases h with h | ⟨e', h1, _⟩; exact h; omega⟩⟩)
    · have hwn : ¬ w < n := by omega
      refine hQ H hm (by rw [zNn_0 hwn, hF, Int.add_zero]) (fun c hc => rfl) (fun c hc => ⟨hseen c hc, fun q hq => ?_⟩)
      rw [zNn_0 hwn, zEx_s]
      constructor
      · exact Or.inl
      · rintro (a | ⟨-, a, -⟩ | ⟨-, a, -⟩)
        · exact a
        · omega
        · omega
