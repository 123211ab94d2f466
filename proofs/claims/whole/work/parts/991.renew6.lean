set_option maxRecDepth 100000 in
theorem zc_renews {xs : Nat → Int} {L : Nat} {H0 : zH} {B : Nat → Int} (hL0 : zLay H0) (hS : ∀ j : Nat, j < 8 → ∃ p : Nat, p < 256 ∧ zA H0 131 j = p ∧ B j = if zonly p < 0 then 8 else zonly p) : ∀ r : Nat, r ≤ 8 → ∀ (d : Nat) (m : Nat) (w F : Int) (H : zH) (Q : zQ), r + 1 ≤ d → m < 256 → zpc m = 8 - r → 0 ≤ w → w + r ≤ 8 → zmd (zin [130, 134] [(106, 37)]) H0 H → zA H 106 37 = F → (F = -1 ∨ 0 ≤ F) → (∀ H' : zH, zmd (zin [130, 134] [(106, 37)]) H0 H' → (∀ j : Nat, j < 8 - r → zA H' 130 j = zA H 130 j) → zOut (zA H 134) (zA H 130) (zA H' 134) F (zA H' 106 37) (8 - r) w (zMn (zKc B (zA H0 110)) r m) (zGb (zKc B (zA H0 110)) r m) → Q 0 H') → zEm xs L d 0 0 250 [zr (some 106), zi ((8 - r : Nat) : Int), zi m, zi w] H Q
  | 0, _ => by
    intro d m w F H Q hd hm2 hpc hw hw8 hm hF hF0 hQ
    have hL := zmd_lay hm hL0
    rw [show ((8 - 0 : Nat) : Int) = 8 from rfl]
    refine zem_250 (zgo_at [31] 8 ?_)
    try simp -implicitDefEqProofs only [zgn_0, zgn_s, zct_0, zct_s, Nat.reduceEqDiff, Nat.reduceBEq, Nat.reduceAdd, Nat.reduceSub, Nat.reduceMul, Int.reduceAdd, Int.reduceSub, Int.reduceMul, Int.reduceNeg, Int.reduceLT, Int.reduceLE, Int.reduceEq, Nat.zero_add, true_and, and_true, false_and, and_false, true_imp_iff, false_imp_iff, not_true_eq_false, not_false_eq_true, if_true, if_false, Bool.false_eq_true, ite_true, ite_false, reduceIte, eq_self, Int.toNat_natCast, zst_0, zst_1, zst_2, zst_3, zst_4, true_or, or_true, or_false, false_or, ze_250_0, zB_250_0, ze_250_17, zB_250_17, ze_250_31, zB_250_31, ze_250_58, zB_250_58, ze_250_59, zB_250_59, ze_250_62, zB_250_62, ze_250_92, zB_250_92, ze_250_125, zB_250_125, ze_250_128, zB_250_128, ze_250_131, zB_250_131, ze_250_137, zB_250_137, zbr_t, zbr_f, zrun_c, zmI_s, zmL_s, zmR_s, zgt_0, zgt_s, zln_0, zln_s, zs1_0, zs1_1i, zs1_1r, zs1_1n, zs1_1l, zs1_s, zs2_0, zs2_1i, zs2_1r, zs2_1n, zs2_1l, zs2_s, zcn_eq, zcn_ne, zcn_lt, zcn_ge, zcn_gt, zcn_le, zpu_0, zpu_1, zpu_2, zx_iconst, zx_lconst, zx_ldc, zx_ldc2, zx_null, zx_iload, zx_lload, zx_aload, zx_istore, zx_lstore, zx_astore, zx_iinc, zx_iadd, zx_isub, zx_imul, zx_idiv, zx_irem, zx_iand, zx_ior, zx_ixor, zx_ishl, zx_ishr, zx_iushr, zx_i2b, zx_i2l, zx_l2i, zx_ladd, zx_lmul, zx_ldiv, zx_lrem, zx_land, zx_lor, zx_lshl, zx_lshr, zx_lcmp, zx_dupi, zx_dupr, zx_dup2l, zx_dup2i, zx_pop, zx_ifc, zx_icmp, zx_ifnullN, zx_ifnullS, zx_ifnonN, zx_ifnonS, zx_goto, zx_gotow, zx_switch, zx_iaload, zx_baload, zx_laload, zx_aaload, zx_iastore, zx_bastore, zx_lastore, zx_aastore, zx_alen, zx_newarray, zx_anewarray, zx_new, zx_getI, zx_getL, zx_getR, zx_putI, zx_putZ, zx_putL, zx_putR, zx_callS, zx_callV, zx_objinit, zx_cpyi, zx_cpyl, zx_mmax, zx_mmin, zx_mminl, zx_ireturn, zx_areturn, zx_lreturn, zx_return, zcs_0, zcs_1, zcv_1, zcs_2, zcv_2, zcs_3, zcv_3, zcs_4, zcv_4, zcs_5, zcv_5, zcs_6, zcv_6, zcs_7, zcv_7, Int.reduceToNat, Nat.reduceDiv, Nat.reduceMod, zJ, zC, zK_wA, zN_wA, zR_wA, zS_wA, zA_wA, zK_wR, zN_wR, zR_wR, zS_wR, zA_wR, zK_cp, zN_cp, zR_cp, zS_cp, zA_cp, zK_mp, zN_mp, zR_mp, zS_mp, zA_mp, zfa, zfmm, zfa_1, zfb_1, zfa_2, zfb_2, zfa_3, zfb_3, zfa_4, zfb_4, zfa_5, zfb_5, zfa_6, zfb_6, zfa_7, zfb_7, zfa_8, zfb_8, zfa_9, zfb_9, zfa_10, zfb_10, zfa_12, zfb_12, zfa_20, zfb_20, zfa_21, zfb_21, zfa_30, zfb_30, zfa_48, zfb_48, zfa_60, zfb_60, zfa_61, zfb_61, zfa_65, zfb_65, zfa_97, zfb_97, zfa_100, zfb_100, zfa_120, zfb_120, zfa_124, zfb_124, zfa_500, zfb_500, zfa_792, zfb_792, zfa_2989, zfb_2989, zfm_2, zfn_2, zfm_3, zfn_3, zfm_4, zfn_4, zfm_6, zfn_6, zfm_7, zfn_7, zfm_8, zfn_8, zfm_12, zfn_12, zfm_49, zfn_49, zfm_60, zfn_60, zfm_61, zfn_61, zfm_792, zfn_792, zfm_2989, zfn_2989, Int.zero_add, Int.add_zero, Int.zero_mul, Int.mul_zero, Int.one_mul, Int.mul_one, lk_106 (zmd_lay hm hL0), lr_106_31 (zmd_lay hm hL0), lr_106_4 (zmd_lay hm hL0), lk_130 (zmd_lay hm hL0), ln_130 (zmd_lay hm hL0), lk_110 (zmd_lay hm hL0), ln_110 (zmd_lay hm hL0), hm.2.2.2 110 _ rfl]
    rw [hF]
    have go : (F = -1 ∨ w < F) → zEt xs L d 0 0 false 250 31 [some (zr (some 106)), some (zi 8), some (zi m), some (zi w), some (zi 0)] [] (zwA H 106 37 w) Q := by
      intro hc
      refine zl_rnC (H0 := zwA H 106 37 w) (zLay_wA hL _ _ _) (fun H' hm' hA' => ?_) _ 0 _ rfl (by omega) (zmd_rf _ _) (fun j hj => by omega)
      refine hQ H' (zmd_tr (zmd_w hm rfl) (zmd_up hm' rfl)) (fun j hj => by rw [hm'.2.2.2 130 j rfl]; rfl) ⟨fun _ => ⟨?_, fun j hj => ?_⟩, fun q => absurd ⟨show (0 : Int) < 1000000 by decide, show F = -1 ∨ w + 0 < F by omega⟩ q⟩
      · rw [hm'.2.2.2 106 37 rfl, zA_wA, if_pos ⟨rfl, rfl⟩]
        show w = w + 0
        omega
      · rw [hA' j hj, if_pos (by omega)]
        rfl
    refine zbr_i (fun q => ?_) (fun q => ?_)
    · exact go (by omega)
    · refine zbr_i (fun q1 => ?_) (fun q1 => ?_)
      · exact go (by omega)
      · refine hQ H hm (fun _ _ => rfl) ⟨fun q => absurd q.2 (show ¬ (F = -1 ∨ w + 0 < F) by omega), fun _ => ⟨hF, fun _ _ => rfl⟩⟩
  | r + 1, hr8 => by
    intro d m w F H Q hd hm2 hpc hw hw8 hm hF hF0 hQ
    have hL := zmd_lay hm hL0
    have ek : 8 - (r + 1) = 7 - r := by omega
    rw [ek] at hQ hpc ⊢
    have hKb := zKc_b B (zA H0 110)
    have hMb := fun m' => zMn_b (K := (zKc B (zA H0 110))) (fun k e _ _ => (hKb k e).1) r m' (by omega)
    have hfb : ∀ e : Nat, 0 ≤ (zFf (zKc B (zA H0 110)) r m) e := fun e => by
      have := (hMb (m ||| 2 ^ e)).1
      have := (hKb (7 - r) e).1
      show 0 ≤ zMn (zKc B (zA H0 110)) r (m ||| 2 ^ e) + (zKc B (zA H0 110)) (7 - r) e
      omega
    have hpb := fun k => zMp_b (f := (zFf (zKc B (zA H0 110)) r m)) (m := m) k (fun e _ _ => hfb e)
    have key : ∀ (kk e : Nat) (H1 : zH), 8 - e = kk → e ≤ 8 → zmd (zin [130, 134] [(106, 37)]) H0 H1 → (zA H1 106 37 = -1 ∨ 0 ≤ zA H1 106 37) → (∀ j : Nat, j < 7 - r → zA H1 130 j = zA H 130 j) → zOut (zA H 134) (zA H 130) (zA H1 134) F (zA H1 106 37) (7 - r) w (zMp (zFf (zKc B (zA H0 110)) r m) m e) (fun j => if j = 7 - r then zPk (zFf (zKc B (zA H0 110)) r m) m e else zGb (zKc B (zA H0 110)) r (m ||| 2 ^ zPk (zFf (zKc B (zA H0 110)) r m) m e) j) → zEt xs L d 0 0 false 250 62 [some (zr (some 106)), some (zi (7 - r : Nat)), some (zi m), some (zi w), some (zi e)] [] H1 Q := by
      intro kk
      induction kk using Nat.strongRecOn with
      | ind kk ih =>
        intro e H1 hkk he hm1 hF1 ho1 hi1
        have hL1 := zmd_lay hm1 hL0
        refine zgo_at [62, 131] 8 ?_
        try simp -implicitDefEqProofs only [zgn_0, zgn_s, zct_0, zct_s, Nat.reduceEqDiff, Nat.reduceBEq, Nat.reduceAdd, Nat.reduceSub, Nat.reduceMul, Int.reduceAdd, Int.reduceSub, Int.reduceMul, Int.reduceNeg, Int.reduceLT, Int.reduceLE, Int.reduceEq, Nat.zero_add, true_and, and_true, false_and, and_false, true_imp_iff, false_imp_iff, not_true_eq_false, not_false_eq_true, if_true, if_false, Bool.false_eq_true, ite_true, ite_false, reduceIte, eq_self, Int.toNat_natCast, zst_0, zst_1, zst_2, zst_3, zst_4, true_or, or_true, or_false, false_or, ze_250_0, zB_250_0, ze_250_17, zB_250_17, ze_250_31, zB_250_31, ze_250_58, zB_250_58, ze_250_59, zB_250_59, ze_250_62, zB_250_62, ze_250_92, zB_250_92, ze_250_125, zB_250_125, ze_250_128, zB_250_128, ze_250_131, zB_250_131, ze_250_137, zB_250_137, zbr_t, zbr_f, zrun_c, zmI_s, zmL_s, zmR_s, zgt_0, zgt_s, zln_0, zln_s, zs1_0, zs1_1i, zs1_1r, zs1_1n, zs1_1l, zs1_s, zs2_0, zs2_1i, zs2_1r, zs2_1n, zs2_1l, zs2_s, zcn_eq, zcn_ne, zcn_lt, zcn_ge, zcn_gt, zcn_le, zpu_0, zpu_1, zpu_2, zx_iconst, zx_lconst, zx_ldc, zx_ldc2, zx_null, zx_iload, zx_lload, zx_aload, zx_istore, zx_lstore, zx_astore, zx_iinc, zx_iadd, zx_isub, zx_imul, zx_idiv, zx_irem, zx_iand, zx_ior, zx_ixor, zx_ishl, zx_ishr, zx_iushr, zx_i2b, zx_i2l, zx_l2i, zx_ladd, zx_lmul, zx_ldiv, zx_lrem, zx_land, zx_lor, zx_lshl, zx_lshr, zx_lcmp, zx_dupi, zx_dupr, zx_dup2l, zx_dup2i, zx_pop, zx_ifc, zx_icmp, zx_ifnullN, zx_ifnullS, zx_ifnonN, zx_ifnonS, zx_goto, zx_gotow, zx_switch, zx_iaload, zx_baload, zx_laload, zx_aaload, zx_iastore, zx_bastore, zx_lastore, zx_aastore, zx_alen, zx_newarray, zx_anewarray, zx_new, zx_getI, zx_getL, zx_getR, zx_putI, zx_putZ, zx_putL, zx_putR, zx_callS, zx_callV, zx_objinit, zx_cpyi, zx_cpyl, zx_mmax, zx_mmin, zx_mminl, zx_ireturn, zx_areturn, zx_lreturn, zx_return, zcs_0, zcs_1, zcv_1, zcs_2, zcv_2, zcs_3, zcv_3, zcs_4, zcv_4, zcs_5, zcv_5, zcs_6, zcv_6, zcs_7, zcv_7, Int.reduceToNat, Nat.reduceDiv, Nat.reduceMod, zJ, zC, zK_wA, zN_wA, zR_wA, zS_wA, zA_wA, zK_wR, zN_wR, zR_wR, zS_wR, zA_wR, zK_cp, zN_cp, zR_cp, zS_cp, zA_cp, zK_mp, zN_mp, zR_mp, zS_mp, zA_mp, zfa, zfmm, zfa_1, zfb_1, zfa_2, zfb_2, zfa_3, zfb_3, zfa_4, zfb_4, zfa_5, zfb_5, zfa_6, zfb_6, zfa_7, zfb_7, zfa_8, zfb_8, zfa_9, zfb_9, zfa_10, zfb_10, zfa_12, zfb_12, zfa_20, zfb_20, zfa_21, zfb_21, zfa_30, zfb_30, zfa_48, zfb_48, zfa_60, zfb_60, zfa_61, zfb_61, zfa_65, zfb_65, zfa_97, zfb_97, zfa_100, zfb_100, zfa_120, zfb_120, zfa_124, zfb_124, zfa_500, zfb_500, zfa_792, zfb_792, zfa_2989, zfb_2989, zfm_2, zfn_2, zfm_3, zfn_3, zfm_4, zfn_4, zfm_6, zfn_6, zfm_7, zfn_7, zfm_8, zfn_8, zfm_12, zfn_12, zfm_49, zfn_49, zfm_60, zfn_60, zfm_61, zfn_61, zfm_792, zfn_792, zfm_2989, zfn_2989, Int.zero_add, Int.add_zero, Int.zero_mul, Int.mul_zero, Int.one_mul, Int.mul_one, lk_106 (zmd_lay hm1 hL0), lr_106_31 (zmd_lay hm1 hL0), lr_106_4 (zmd_lay hm1 hL0), lk_130 (zmd_lay hm1 hL0), ln_130 (zmd_lay hm1 hL0), lk_110 (zmd_lay hm1 hL0), ln_110 (zmd_lay hm1 hL0), hm1.2.2.2 110 _ rfl]
        refine zbr_i (fun q0 => ?_) (fun q0 => ?_)
        · have e8 : e = 8 := by omega
          subst e8
          refine hQ H1 hm1 ho1 ?_
          have : zGb (zKc B (zA H0 110)) (r + 1) m = (fun j => if j = 7 - r then zPk (zFf (zKc B (zA H0 110)) r m) m 8 else zGb (zKc B (zA H0 110)) r (m ||| 2 ^ zPk (zFf (zKc B (zA H0 110)) r m) m 8) j) := by funext j; rw [zGb_s]
          rw [this, zMn_f]
          exact hi1
        · have he8 : e < 8 := by omega
          have nx : ∀ H2 : zH, zmd (zin [130, 134] [(106, 37)]) H0 H2 → (zA H2 106 37 = -1 ∨ 0 ≤ zA H2 106 37) → (∀ j : Nat, j < 7 - r → zA H2 130 j = zA H 130 j) → zOut (zA H 134) (zA H 130) (zA H2 134) F (zA H2 106 37) (7 - r) w (zMp (zFf (zKc B (zA H0 110)) r m) m (e + 1)) (fun j => if j = 7 - r then zPk (zFf (zKc B (zA H0 110)) r m) m (e + 1) else zGb (zKc B (zA H0 110)) r (m ||| 2 ^ zPk (zFf (zKc B (zA H0 110)) r m) m (e + 1)) j) → zEt xs L d 0 0 false 250 131 [some (zr (some 106)), some (zi (7 - r : Nat)), some (zi m), some (zi w), some (zi e)] [] H2 Q := by
            intro H2 k1 k2 k3 k4
            refine zgo_at [62] 8 ?_
            try simp -implicitDefEqProofs only [zgn_0, zgn_s, zct_0, zct_s, Nat.reduceEqDiff, Nat.reduceBEq, Nat.reduceAdd, Nat.reduceSub, Nat.reduceMul, Int.reduceAdd, Int.reduceSub, Int.reduceMul, Int.reduceNeg, Int.reduceLT, Int.reduceLE, Int.reduceEq, Nat.zero_add, true_and, and_true, false_and, and_false, true_imp_iff, false_imp_iff, not_true_eq_false, not_false_eq_true, if_true, if_false, Bool.false_eq_true, ite_true, ite_false, reduceIte, eq_self, Int.toNat_natCast, zst_0, zst_1, zst_2, zst_3, zst_4, true_or, or_true, or_false, false_or, ze_250_0, zB_250_0, ze_250_17, zB_250_17, ze_250_31, zB_250_31, ze_250_58, zB_250_58, ze_250_59, zB_250_59, ze_250_62, zB_250_62, ze_250_92, zB_250_92, ze_250_125, zB_250_125, ze_250_128, zB_250_128, ze_250_131, zB_250_131, ze_250_137, zB_250_137, zbr_t, zbr_f, zrun_c, zmI_s, zmL_s, zmR_s, zgt_0, zgt_s, zln_0, zln_s, zs1_0, zs1_1i, zs1_1r, zs1_1n, zs1_1l, zs1_s, zs2_0, zs2_1i, zs2_1r, zs2_1n, zs2_1l, zs2_s, zcn_eq, zcn_ne, zcn_lt, zcn_ge, zcn_gt, zcn_le, zpu_0, zpu_1, zpu_2, zx_iconst, zx_lconst, zx_ldc, zx_ldc2, zx_null, zx_iload, zx_lload, zx_aload, zx_istore, zx_lstore, zx_astore, zx_iinc, zx_iadd, zx_isub, zx_imul, zx_idiv, zx_irem, zx_iand, zx_ior, zx_ixor, zx_ishl, zx_ishr, zx_iushr, zx_i2b, zx_i2l, zx_l2i, zx_ladd, zx_lmul, zx_ldiv, zx_lrem, zx_land, zx_lor, zx_lshl, zx_lshr, zx_lcmp, zx_dupi, zx_dupr, zx_dup2l, zx_dup2i, zx_pop, zx_ifc, zx_icmp, zx_ifnullN, zx_ifnullS, zx_ifnonN, zx_ifnonS, zx_goto, zx_gotow, zx_switch, zx_iaload, zx_baload, zx_laload, zx_aaload, zx_iastore, zx_bastore, zx_lastore, zx_aastore, zx_alen, zx_newarray, zx_anewarray, zx_new, zx_getI, zx_getL, zx_getR, zx_putI, zx_putZ, zx_putL, zx_putR, zx_callS, zx_callV, zx_objinit, zx_cpyi, zx_cpyl, zx_mmax, zx_mmin, zx_mminl, zx_ireturn, zx_areturn, zx_lreturn, zx_return, zcs_0, zcs_1, zcv_1, zcs_2, zcv_2, zcs_3, zcv_3, zcs_4, zcv_4, zcs_5, zcv_5, zcs_6, zcv_6, zcs_7, zcv_7, Int.reduceToNat, Nat.reduceDiv, Nat.reduceMod, zJ, zC, zK_wA, zN_wA, zR_wA, zS_wA, zA_wA, zK_wR, zN_wR, zR_wR, zS_wR, zA_wR, zK_cp, zN_cp, zR_cp, zS_cp, zA_cp, zK_mp, zN_mp, zR_mp, zS_mp, zA_mp, zfa, zfmm, zfa_1, zfb_1, zfa_2, zfb_2, zfa_3, zfb_3, zfa_4, zfb_4, zfa_5, zfb_5, zfa_6, zfb_6, zfa_7, zfb_7, zfa_8, zfb_8, zfa_9, zfb_9, zfa_10, zfb_10, zfa_12, zfb_12, zfa_20, zfb_20, zfa_21, zfb_21, zfa_30, zfb_30, zfa_48, zfb_48, zfa_60, zfb_60, zfa_61, zfb_61, zfa_65, zfb_65, zfa_97, zfb_97, zfa_100, zfb_100, zfa_120, zfb_120, zfa_124, zfb_124, zfa_500, zfb_500, zfa_792, zfb_792, zfa_2989, zfb_2989, zfm_2, zfn_2, zfm_3, zfn_3, zfm_4, zfn_4, zfm_6, zfn_6, zfm_7, zfn_7, zfm_8, zfn_8, zfm_12, zfn_12, zfm_49, zfn_49, zfm_60, zfn_60, zfm_61, zfn_61, zfm_792, zfn_792, zfm_2989, zfn_2989, Int.zero_add, Int.add_zero, Int.zero_mul, Int.mul_zero, Int.one_mul, Int.mul_one]
            repeat (with_reducible refine And.intro ?_ ?_; · first | omega | (simp only [z32, z64]; omega))
            exact ih _ (by omega) (e + 1) H2 rfl (by omega) k1 k2 k3 k4
          have stay : (zbt1 m e = true ∨ ¬ (zFf (zKc B (zA H0 110)) r m) e < zMp (zFf (zKc B (zA H0 110)) r m) m e) → zOut (zA H 134) (zA H 130) (zA H1 134) F (zA H1 106 37) (7 - r) w (zMp (zFf (zKc B (zA H0 110)) r m) m (e + 1)) (fun j => if j = 7 - r then zPk (zFf (zKc B (zA H0 110)) r m) m (e + 1) else zGb (zKc B (zA H0 110)) r (m ||| 2 ^ zPk (zFf (zKc B (zA H0 110)) r m) m (e + 1)) j) := by
            intro hc
            have e1 : zMp (zFf (zKc B (zA H0 110)) r m) m (e + 1) = zMp (zFf (zKc B (zA H0 110)) r m) m e := by
              rw [zMp_s]
              rcases hc with hc | hc
              · rw [if_pos hc]
              · rw [if_neg hc]; split <;> rfl
            have e2 : zPk (zFf (zKc B (zA H0 110)) r m) m (e + 1) = zPk (zFf (zKc B (zA H0 110)) r m) m e := by
              rw [zPk_s]
              rcases hc with hc | hc
              · rw [if_pos hc]
              · rw [if_neg hc]; split <;> rfl
            rw [e1, e2]
            exact hi1
          rw [zsh_b m hm2 e he8]
          by_cases hb : zbt1 m e = true
          · rw [if_pos hb]
            refine zbr_i (fun _ => nx H1 hm1 hF1 ho1 (stay (Or.inl hb))) (fun q1 => absurd rfl q1)
          · rw [if_neg hb]
            refine zbr_i (fun q1 => absurd q1 (by decide)) (fun _ => ?_)
            obtain ⟨p, hp, e131, hBp⟩ := hS (7 - r) (by omega)
            have hr7 := zonly_r p hp
            refine ⟨by omega, zc_only hL1 (by omega) hp (by rw [hm1.2.2.2 131 _ rfl]; exact e131) ?_⟩
            try simp -implicitDefEqProofs only [zgn_0, zgn_s, zct_0, zct_s, Nat.reduceEqDiff, Nat.reduceBEq, Nat.reduceAdd, Nat.reduceSub, Nat.reduceMul, Int.reduceAdd, Int.reduceSub, Int.reduceMul, Int.reduceNeg, Int.reduceLT, Int.reduceLE, Int.reduceEq, Nat.zero_add, true_and, and_true, false_and, and_false, true_imp_iff, false_imp_iff, not_true_eq_false, not_false_eq_true, if_true, if_false, Bool.false_eq_true, ite_true, ite_false, reduceIte, eq_self, Int.toNat_natCast, zst_0, zst_1, zst_2, zst_3, zst_4, true_or, or_true, or_false, false_or, ze_250_0, zB_250_0, ze_250_17, zB_250_17, ze_250_31, zB_250_31, ze_250_58, zB_250_58, ze_250_59, zB_250_59, ze_250_62, zB_250_62, ze_250_92, zB_250_92, ze_250_125, zB_250_125, ze_250_128, zB_250_128, ze_250_131, zB_250_131, ze_250_137, zB_250_137, zbr_t, zbr_f, zrun_c, zmI_s, zmL_s, zmR_s, zgt_0, zgt_s, zln_0, zln_s, zs1_0, zs1_1i, zs1_1r, zs1_1n, zs1_1l, zs1_s, zs2_0, zs2_1i, zs2_1r, zs2_1n, zs2_1l, zs2_s, zcn_eq, zcn_ne, zcn_lt, zcn_ge, zcn_gt, zcn_le, zpu_0, zpu_1, zpu_2, zx_iconst, zx_lconst, zx_ldc, zx_ldc2, zx_null, zx_iload, zx_lload, zx_aload, zx_istore, zx_lstore, zx_astore, zx_iinc, zx_iadd, zx_isub, zx_imul, zx_idiv, zx_irem, zx_iand, zx_ior, zx_ixor, zx_ishl, zx_ishr, zx_iushr, zx_i2b, zx_i2l, zx_l2i, zx_ladd, zx_lmul, zx_ldiv, zx_lrem, zx_land, zx_lor, zx_lshl, zx_lshr, zx_lcmp, zx_dupi, zx_dupr, zx_dup2l, zx_dup2i, zx_pop, zx_ifc, zx_icmp, zx_ifnullN, zx_ifnullS, zx_ifnonN, zx_ifnonS, zx_goto, zx_gotow, zx_switch, zx_iaload, zx_baload, zx_laload, zx_aaload, zx_iastore, zx_bastore, zx_lastore, zx_aastore, zx_alen, zx_newarray, zx_anewarray, zx_new, zx_getI, zx_getL, zx_getR, zx_putI, zx_putZ, zx_putL, zx_putR, zx_callS, zx_callV, zx_objinit, zx_cpyi, zx_cpyl, zx_mmax, zx_mmin, zx_mminl, zx_ireturn, zx_areturn, zx_lreturn, zx_return, zcs_0, zcs_1, zcv_1, zcs_2, zcv_2, zcs_3, zcv_3, zcs_4, zcv_4, zcs_5, zcv_5, zcs_6, zcv_6, zcs_7, zcv_7, Int.reduceToNat, Nat.reduceDiv, Nat.reduceMod, zJ, zC, zK_wA, zN_wA, zR_wA, zS_wA, zA_wA, zK_wR, zN_wR, zR_wR, zS_wR, zA_wR, zK_cp, zN_cp, zR_cp, zS_cp, zA_cp, zK_mp, zN_mp, zR_mp, zS_mp, zA_mp, zfa, zfmm, zfa_1, zfb_1, zfa_2, zfb_2, zfa_3, zfb_3, zfa_4, zfb_4, zfa_5, zfb_5, zfa_6, zfb_6, zfa_7, zfb_7, zfa_8, zfb_8, zfa_9, zfb_9, zfa_10, zfb_10, zfa_12, zfb_12, zfa_20, zfb_20, zfa_21, zfb_21, zfa_30, zfb_30, zfa_48, zfb_48, zfa_60, zfb_60, zfa_61, zfb_61, zfa_65, zfb_65, zfa_97, zfb_97, zfa_100, zfb_100, zfa_120, zfb_120, zfa_124, zfb_124, zfa_500, zfb_500, zfa_792, zfb_792, zfa_2989, zfb_2989, zfm_2, zfn_2, zfm_3, zfn_3, zfm_4, zfn_4, zfm_6, zfn_6, zfm_7, zfn_7, zfm_8, zfn_8, zfm_12, zfn_12, zfm_49, zfn_49, zfm_60, zfn_60, zfm_61, zfn_61, zfm_792, zfn_792, zfm_2989, zfn_2989, Int.zero_add, Int.add_zero, Int.zero_mul, Int.mul_zero, Int.one_mul, Int.mul_one, lk_106 (zmd_lay hm1 hL0), lr_106_31 (zmd_lay hm1 hL0), lr_106_4 (zmd_lay hm1 hL0), lk_130 (zmd_lay hm1 hL0), ln_130 (zmd_lay hm1 hL0), lk_110 (zmd_lay hm1 hL0), ln_110 (zmd_lay hm1 hL0), hm1.2.2.2 110 _ rfl]
            have hKe : (zFf (zKc B (zA H0 110)) r m) e = zMn (zKc B (zA H0 110)) r (m ||| 2 ^ e) + (zKc B (zA H0 110)) (7 - r) e := rfl
            have hx0 := hMb (m ||| 2 ^ e)
            refine zbr_i (fun q1 => ?_) (fun q1 => ?_)
            · have hbf : zbt1 m e = false := by simpa using hb
              have hz := zor_m m hm2 e he8
              have hBe : ¬ B (7 - r) = (e : Int) := by
                rw [hBp]
                split <;> omega
              have call : ∀ kx : Int, (zKc B (zA H0 110)) (7 - r) e = kx → (0 ≤ kx ∧ kx ≤ 1) → zEm xs L (d - 1) 0 0 250 [zr (some 106), zi ((7 - r + 1 : Nat) : Int), zi ((m ||| 2 ^ e : Nat) : Int), zi (w + kx)] (zwA H1 130 (7 - r) e) (fun _ H' => zEt xs L d 0 0 false 250 131 [some (zr (some 106)), some (zi (7 - r : Nat)), some (zi m), some (zi w), some (zi e)] [] H' Q) := by
                intro kx hkx hk01
                rw [show (7 - r + 1) = 8 - r by omega]
                refine zc_renews hL0 hS r (by omega) (d - 1) (m ||| 2 ^ e) (w + kx) (zA H1 106 37) (zwA H1 130 (7 - r) e) _ (by omega) hz.1 (by rw [hz.2.2.2 hbf, hpc]; omega) (by omega) (by omega) (zmd_w hm1 rfl) rfl hF1 (fun H2 k1 k2 k3 => ?_)
                have hx8 := zMn_8 B (zA H0 110) r (m ||| 2 ^ e) (by omega)
                have e134 : zA (zwA H1 130 (7 - r) (e : Int)) 134 = zA H1 134 := by funext j; rw [zA_wA, if_neg (by omega)]
                rw [e134, show 8 - r = 7 - r + 1 by omega] at k3
                have out := zOut_s (e := e) hw (hpb e) ⟨hx0.1, fun q => by have := hx8 q; omega⟩ hk01 hF0 hi1 k3 (fun j hj => by rw [zA_wA, if_neg (by omega)]; exact ho1 j hj) (by rw [zA_wA, if_pos ⟨rfl, rfl⟩])
                refine nx H2 k1 ?_ (fun j hj => by rw [k2 j (by omega), zA_wA, if_neg (by omega)]; exact ho1 j hj) ?_
                · by_cases u : zMn (zKc B (zA H0 110)) r (m ||| 2 ^ e) < 1000000 ∧ (zA H1 106 37 = -1 ∨ w + kx + zMn (zKc B (zA H0 110)) r (m ||| 2 ^ e) < zA H1 106 37)
                  · rw [(k3.1 u).1]; omega
                  · rw [(k3.2 u).1]; exact hF1
                · rw [zMp_s, zPk_s, if_neg hb, if_neg hb, hKe, hkx]
                  by_cases hl : zMn (zKc B (zA H0 110)) r (m ||| 2 ^ e) + kx < zMp (zFf (zKc B (zA H0 110)) r m) m e
                  · rw [if_pos hl, if_pos hl] at out
                    rw [if_pos hl, if_pos hl]
                    exact out
                  · rw [if_neg hl, if_neg hl] at out
                    rw [if_neg hl, if_neg hl]
                    exact out
              rw [zor1 hm2 he8]
              repeat (with_reducible refine And.intro ?_ ?_; · first | omega | (simp only [z32, z64]; omega))
              refine zbr_i (fun q2 => ?_) (fun q2 => ?_)
              · repeat (with_reducible refine And.intro ?_ ?_; · first | omega | (simp only [z32, z64]; omega))
                exact call 1 (by unfold zKc; rw [if_neg hBe, if_neg q2]) (by omega)
              · repeat (with_reducible refine And.intro ?_ ?_; · first | omega | (simp only [z32, z64]; omega))
                have := call 0 (by unfold zKc; rw [if_neg hBe, if_pos (by omega)]) (by omega)
                rw [Int.add_zero] at this
                exact this
            · refine nx H1 hm1 hF1 ho1 (stay (Or.inr ?_))
              have hBe : B (7 - r) = (e : Int) := by
                rw [hBp]
                split <;> omega
              have hK1 : (zKc B (zA H0 110)) (7 - r) e = 1000000 := by unfold zKc; rw [if_pos hBe]
              have := hpb e
              rw [hKe, hK1]
              omega
    have go : zEt xs L d 0 0 false 250 62 [some (zr (some 106)), some (zi (7 - r : Nat)), some (zi m), some (zi w), some (zi 0)] [] H Q := key _ 0 H rfl (by omega) hm (by rw [hF]; exact hF0) (fun _ _ => rfl) ⟨fun q => absurd q.1 (show ¬ (1000000 : Int) < 1000000 by decide), fun _ => ⟨hF, fun _ _ => rfl⟩⟩
    refine zem_250 (zgo_at [62] 8 ?_)
    try simp -implicitDefEqProofs only [zgn_0, zgn_s, zct_0, zct_s, Nat.reduceEqDiff, Nat.reduceBEq, Nat.reduceAdd, Nat.reduceSub, Nat.reduceMul, Int.reduceAdd, Int.reduceSub, Int.reduceMul, Int.reduceNeg, Int.reduceLT, Int.reduceLE, Int.reduceEq, Nat.zero_add, true_and, and_true, false_and, and_false, true_imp_iff, false_imp_iff, not_true_eq_false, not_false_eq_true, if_true, if_false, Bool.false_eq_true, ite_true, ite_false, reduceIte, eq_self, Int.toNat_natCast, zst_0, zst_1, zst_2, zst_3, zst_4, true_or, or_true, or_false, false_or, ze_250_0, zB_250_0, ze_250_17, zB_250_17, ze_250_31, zB_250_31, ze_250_58, zB_250_58, ze_250_59, zB_250_59, ze_250_62, zB_250_62, ze_250_92, zB_250_92, ze_250_125, zB_250_125, ze_250_128, zB_250_128, ze_250_131, zB_250_131, ze_250_137, zB_250_137, zbr_t, zbr_f, zrun_c, zmI_s, zmL_s, zmR_s, zgt_0, zgt_s, zln_0, zln_s, zs1_0, zs1_1i, zs1_1r, zs1_1n, zs1_1l, zs1_s, zs2_0, zs2_1i, zs2_1r, zs2_1n, zs2_1l, zs2_s, zcn_eq, zcn_ne, zcn_lt, zcn_ge, zcn_gt, zcn_le, zpu_0, zpu_1, zpu_2, zx_iconst, zx_lconst, zx_ldc, zx_ldc2, zx_null, zx_iload, zx_lload, zx_aload, zx_istore, zx_lstore, zx_astore, zx_iinc, zx_iadd, zx_isub, zx_imul, zx_idiv, zx_irem, zx_iand, zx_ior, zx_ixor, zx_ishl, zx_ishr, zx_iushr, zx_i2b, zx_i2l, zx_l2i, zx_ladd, zx_lmul, zx_ldiv, zx_lrem, zx_land, zx_lor, zx_lshl, zx_lshr, zx_lcmp, zx_dupi, zx_dupr, zx_dup2l, zx_dup2i, zx_pop, zx_ifc, zx_icmp, zx_ifnullN, zx_ifnullS, zx_ifnonN, zx_ifnonS, zx_goto, zx_gotow, zx_switch, zx_iaload, zx_baload, zx_laload, zx_aaload, zx_iastore, zx_bastore, zx_lastore, zx_aastore, zx_alen, zx_newarray, zx_anewarray, zx_new, zx_getI, zx_getL, zx_getR, zx_putI, zx_putZ, zx_putL, zx_putR, zx_callS, zx_callV, zx_objinit, zx_cpyi, zx_cpyl, zx_mmax, zx_mmin, zx_mminl, zx_ireturn, zx_areturn, zx_lreturn, zx_return, zcs_0, zcs_1, zcv_1, zcs_2, zcv_2, zcs_3, zcv_3, zcs_4, zcv_4, zcs_5, zcv_5, zcs_6, zcv_6, zcs_7, zcv_7, Int.reduceToNat, Nat.reduceDiv, Nat.reduceMod, zJ, zC, zK_wA, zN_wA, zR_wA, zS_wA, zA_wA, zK_wR, zN_wR, zR_wR, zS_wR, zA_wR, zK_cp, zN_cp, zR_cp, zS_cp, zA_cp, zK_mp, zN_mp, zR_mp, zS_mp, zA_mp, zfa, zfmm, zfa_1, zfb_1, zfa_2, zfb_2, zfa_3, zfb_3, zfa_4, zfb_4, zfa_5, zfb_5, zfa_6, zfb_6, zfa_7, zfb_7, zfa_8, zfb_8, zfa_9, zfb_9, zfa_10, zfb_10, zfa_12, zfb_12, zfa_20, zfb_20, zfa_21, zfb_21, zfa_30, zfb_30, zfa_48, zfb_48, zfa_60, zfb_60, zfa_61, zfb_61, zfa_65, zfb_65, zfa_97, zfb_97, zfa_100, zfb_100, zfa_120, zfb_120, zfa_124, zfb_124, zfa_500, zfb_500, zfa_792, zfb_792, zfa_2989, zfb_2989, zfm_2, zfn_2, zfm_3, zfn_3, zfm_4, zfn_4, zfm_6, zfn_6, zfm_7, zfn_7, zfm_8, zfn_8, zfm_12, zfn_12, zfm_49, zfn_49, zfm_60, zfn_60, zfm_61, zfn_61, zfm_792, zfn_792, zfm_2989, zfn_2989, Int.zero_add, Int.add_zero, Int.zero_mul, Int.mul_zero, Int.one_mul, Int.mul_one, lk_106 (zmd_lay hm hL0), lr_106_31 (zmd_lay hm hL0), lr_106_4 (zmd_lay hm hL0), lk_130 (zmd_lay hm hL0), ln_130 (zmd_lay hm hL0), lk_110 (zmd_lay hm hL0), ln_110 (zmd_lay hm hL0), hm.2.2.2 110 _ rfl]
    rw [hF]
    have hv := zMn_b (K := (zKc B (zA H0 110))) (fun k e _ _ => (hKb k e).1) (r + 1) m (by omega)
    refine zbr_i (fun q => ?_) (fun q => ?_)
    · refine zbr_i (fun _ => go) (fun q1 => absurd q1 (by omega))
    · refine zbr_i (fun q1 => ?_) (fun q1 => ?_)
      · refine zbr_i (fun _ => go) (fun q1 => absurd q1 (by omega))
      · exact hQ H hm (fun _ _ => rfl) ⟨fun q => absurd q.2 (by omega), fun _ => ⟨hF, fun _ _ => rfl⟩⟩
