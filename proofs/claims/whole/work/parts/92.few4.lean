theorem zdm2 : ∀ x : Nat, x < 256 → x ≠ 0 → (zand (x : Int) ((x : Int) - 1)).toNat < 256 ∧ 0 ≤ zand (x : Int) ((x : Int) - 1) ∧ zpc (zand (x : Int) ((x : Int) - 1)).toNat + 1 = zpc x ∧ (zand (x : Int) ((x : Int) - 1)).toNat < x := by decide +kernel
set_option maxRecDepth 100000 in
theorem zl_bits {xs : Nat → Int} {L d b1 b2 : Nat} {H : zH} {Q : zQ} {m : Nat} {l0 : Option zV} (h : Q (zpc m : Nat) H) (hm : m < 256) : ∀ (kk : Nat) (c : Nat) (x : Nat), x = kk → (x < 256) → (c + zpc x = zpc m) → zEt xs L d b1 b2 false 233 4 [some (zi m), some (zi c), some (zi x)] [] H Q := by
  intro kk
  induction kk using Nat.strongRecOn with
  | ind kk ih =>
    intro c x hkk hx hc
    refine zgo_at [4] 8 ?_
    try simp -implicitDefEqProofs only [zgn_0, zgn_s, zct_0, zct_s, Nat.reduceEqDiff, Nat.reduceBEq, Nat.reduceAdd, Nat.reduceSub, Nat.reduceMul, Int.reduceAdd, Int.reduceSub, Int.reduceMul, Int.reduceNeg, Int.reduceLT, Int.reduceLE, Int.reduceEq, Nat.zero_add, true_and, and_true, false_and, and_false, true_imp_iff, false_imp_iff, not_true_eq_false, not_false_eq_true, if_true, if_false, Bool.false_eq_true, ite_true, ite_false, reduceIte, eq_self, Int.toNat_natCast, zst_0, zst_1, zst_2, zst_3, zst_4, true_or, or_true, or_false, false_or, ze_233_0, zB_233_0, ze_233_4, zB_233_4, ze_233_20, zB_233_20, zbr_t, zbr_f, zrun_c, zmI_s, zmL_s, zmR_s, zgt_0, zgt_s, zln_0, zln_s, zs1_0, zs1_1i, zs1_1r, zs1_1n, zs1_1l, zs1_s, zs2_0, zs2_1i, zs2_1r, zs2_1n, zs2_1l, zs2_s, zcn_eq, zcn_ne, zcn_lt, zcn_ge, zcn_gt, zcn_le, zpu_0, zpu_1, zpu_2, zx_iconst, zx_lconst, zx_ldc, zx_ldc2, zx_null, zx_iload, zx_lload, zx_aload, zx_istore, zx_lstore, zx_astore, zx_iinc, zx_iadd, zx_isub, zx_imul, zx_idiv, zx_irem, zx_iand, zx_ior, zx_ixor, zx_ishl, zx_ishr, zx_iushr, zx_i2b, zx_i2l, zx_l2i, zx_ladd, zx_lmul, zx_ldiv, zx_lrem, zx_land, zx_lor, zx_lshl, zx_lshr, zx_lcmp, zx_dupi, zx_dupr, zx_dup2l, zx_dup2i, zx_pop, zx_ifc, zx_icmp, zx_ifnullN, zx_ifnullS, zx_ifnonN, zx_ifnonS, zx_goto, zx_gotow, zx_switch, zx_iaload, zx_baload, zx_laload, zx_aaload, zx_iastore, zx_bastore, zx_lastore, zx_aastore, zx_alen, zx_newarray, zx_anewarray, zx_new, zx_getI, zx_getL, zx_getR, zx_putI, zx_putZ, zx_putL, zx_putR, zx_callS, zx_callV, zx_objinit, zx_cpyi, zx_cpyl, zx_mmax, zx_mmin, zx_mminl, zx_ireturn, zx_areturn, zx_lreturn, zx_return, zcs_0, zcs_1, zcv_1, zcs_2, zcv_2, zcs_3, zcv_3, zcs_4, zcv_4, zcs_5, zcv_5, zcs_6, zcv_6, zcs_7, zcv_7, Int.reduceToNat, Nat.reduceDiv, Nat.reduceMod, zJ, zC, zK_wA, zN_wA, zR_wA, zS_wA, zA_wA, zK_wR, zN_wR, zR_wR, zS_wR, zA_wR, zK_cp, zN_cp, zR_cp, zS_cp, zA_cp, zK_mp, zN_mp, zR_mp, zS_mp, zA_mp, zfa, zfmm, zfa_1, zfb_1, zfa_2, zfb_2, zfa_3, zfb_3, zfa_4, zfb_4, zfa_5, zfb_5, zfa_6, zfb_6, zfa_7, zfb_7, zfa_8, zfb_8, zfa_9, zfb_9, zfa_10, zfb_10, zfa_12, zfb_12, zfa_20, zfb_20, zfa_21, zfb_21, zfa_30, zfb_30, zfa_48, zfb_48, zfa_60, zfb_60, zfa_61, zfb_61, zfa_65, zfb_65, zfa_97, zfb_97, zfa_100, zfb_100, zfa_120, zfb_120, zfa_124, zfb_124, zfa_500, zfb_500, zfa_792, zfb_792, zfa_2989, zfb_2989, zfm_2, zfn_2, zfm_3, zfn_3, zfm_4, zfn_4, zfm_6, zfn_6, zfm_7, zfn_7, zfm_8, zfn_8, zfm_12, zfn_12, zfm_49, zfn_49, zfm_60, zfn_60, zfm_61, zfn_61, zfm_792, zfn_792, zfm_2989, zfn_2989, Int.zero_add, Int.add_zero, Int.zero_mul, Int.mul_zero, Int.one_mul, Int.mul_one]
    refine zbr_i (fun q0 => ?_) (fun q0 => ?_)
    · have e0 : x = 0 := by omega
      subst e0
      have : zpc 0 = 0 := rfl
      rw [show c = zpc m by omega]
      exact h
    · have g := zdm2 x hx (by omega)
      have := (zpc_le m hm).1
      repeat (with_reducible refine And.intro ?_ ?_; · first | omega | (simp only [z32, z64]; omega))
      obtain ⟨y, ey⟩ : ∃ y : Nat, zand (x : Int) ((x : Int) - 1) = y := ⟨_, (Int.toNat_of_nonneg g.2.1).symm⟩
      rw [ey, Int.toNat_natCast] at g
      rw [ey]
      exact ih y (by omega) (c + 1) y rfl (by omega) (by omega)
set_option maxRecDepth 100000 in
theorem zc_bits {xs : Nat → Int} {L d b1 b2 : Nat} {H : zH} {Q : zQ} {m : Nat} (hm : m < 256) (h : Q (zpc m : Nat) H) : zEm xs L d b1 b2 233 [zi m] H Q := by
  refine zem_233 (zgo_at [4] 8 ?_)
  try simp -implicitDefEqProofs only [zgn_0, zgn_s, zct_0, zct_s, Nat.reduceEqDiff, Nat.reduceBEq, Nat.reduceAdd, Nat.reduceSub, Nat.reduceMul, Int.reduceAdd, Int.reduceSub, Int.reduceMul, Int.reduceNeg, Int.reduceLT, Int.reduceLE, Int.reduceEq, Nat.zero_add, true_and, and_true, false_and, and_false, true_imp_iff, false_imp_iff, not_true_eq_false, not_false_eq_true, if_true, if_false, Bool.false_eq_true, ite_true, ite_false, reduceIte, eq_self, Int.toNat_natCast, zst_0, zst_1, zst_2, zst_3, zst_4, true_or, or_true, or_false, false_or, ze_233_0, zB_233_0, ze_233_4, zB_233_4, ze_233_20, zB_233_20, zbr_t, zbr_f, zrun_c, zmI_s, zmL_s, zmR_s, zgt_0, zgt_s, zln_0, zln_s, zs1_0, zs1_1i, zs1_1r, zs1_1n, zs1_1l, zs1_s, zs2_0, zs2_1i, zs2_1r, zs2_1n, zs2_1l, zs2_s, zcn_eq, zcn_ne, zcn_lt, zcn_ge, zcn_gt, zcn_le, zpu_0, zpu_1, zpu_2, zx_iconst, zx_lconst, zx_ldc, zx_ldc2, zx_null, zx_iload, zx_lload, zx_aload, zx_istore, zx_lstore, zx_astore, zx_iinc, zx_iadd, zx_isub, zx_imul, zx_idiv, zx_irem, zx_iand, zx_ior, zx_ixor, zx_ishl, zx_ishr, zx_iushr, zx_i2b, zx_i2l, zx_l2i, zx_ladd, zx_lmul, zx_ldiv, zx_lrem, zx_land, zx_lor, zx_lshl, zx_lshr, zx_lcmp, zx_dupi, zx_dupr, zx_dup2l, zx_dup2i, zx_pop, zx_ifc, zx_icmp, zx_ifnullN, zx_ifnullS, zx_ifnonN, zx_ifnonS, zx_goto, zx_gotow, zx_switch, zx_iaload, zx_baload, zx_laload, zx_aaload, zx_iastore, zx_bastore, zx_lastore, zx_aastore, zx_alen, zx_newarray, zx_anewarray, zx_new, zx_getI, zx_getL, zx_getR, zx_putI, zx_putZ, zx_putL, zx_putR, zx_callS, zx_callV, zx_objinit, zx_cpyi, zx_cpyl, zx_mmax, zx_mmin, zx_mminl, zx_ireturn, zx_areturn, zx_lreturn, zx_return, zcs_0, zcs_1, zcv_1, zcs_2, zcv_2, zcs_3, zcv_3, zcs_4, zcv_4, zcs_5, zcv_5, zcs_6, zcv_6, zcs_7, zcv_7, Int.reduceToNat, Nat.reduceDiv, Nat.reduceMod, zJ, zC, zK_wA, zN_wA, zR_wA, zS_wA, zA_wA, zK_wR, zN_wR, zR_wR, zS_wR, zA_wR, zK_cp, zN_cp, zR_cp, zS_cp, zA_cp, zK_mp, zN_mp, zR_mp, zS_mp, zA_mp, zfa, zfmm, zfa_1, zfb_1, zfa_2, zfb_2, zfa_3, zfb_3, zfa_4, zfb_4, zfa_5, zfb_5, zfa_6, zfb_6, zfa_7, zfb_7, zfa_8, zfb_8, zfa_9, zfb_9, zfa_10, zfb_10, zfa_12, zfb_12, zfa_20, zfb_20, zfa_21, zfb_21, zfa_30, zfb_30, zfa_48, zfb_48, zfa_60, zfb_60, zfa_61, zfb_61, zfa_65, zfb_65, zfa_97, zfb_97, zfa_100, zfb_100, zfa_120, zfb_120, zfa_124, zfb_124, zfa_500, zfb_500, zfa_792, zfb_792, zfa_2989, zfb_2989, zfm_2, zfn_2, zfm_3, zfn_3, zfm_4, zfn_4, zfm_6, zfn_6, zfm_7, zfn_7, zfm_8, zfn_8, zfm_12, zfn_12, zfm_49, zfn_49, zfm_60, zfn_60, zfm_61, zfn_61, zfm_792, zfn_792, zfm_2989, zfn_2989, Int.zero_add, Int.add_zero, Int.zero_mul, Int.mul_zero, Int.one_mul, Int.mul_one]
  exact zl_bits (l0 := none) h hm _ 0 m rfl hm (by omega)
set_option maxRecDepth 100000 in
theorem zl_mfA {xs : Nat → Int} {L d b1 b2 : Nat} {H : zH} {Q : zQ}  (hL : zLay H) (hx : ∀ p : Nat, p < 256 → (∀ q : Nat, q < 8 → (zbt1 p q = true ↔ ∃ i : Nat, i < 64 ∧ i / 8 = q ∧ 0 < zA H 129 i)) → zEt xs L d b1 b2 false 247 34 [some (zr (some 106)), some (zi p), some (zi 64), none, none, none, none, none, none] [] H Q) : ∀ (kk : Nat) (k : Nat) (p : Nat), 64 - k = kk → (k ≤ 64) → (p < 256) → (∀ q : Nat, q < 8 → (zbt1 p q = true ↔ ∃ i : Nat, i < k ∧ i / 8 = q ∧ 0 < zA H 129 i)) → zEt xs L d b1 b2 false 247 4 [some (zr (some 106)), some (zi p), some (zi k), none, none, none, none, none, none] [] H Q := by
  intro kk
  induction kk using Nat.strongRecOn with
  | ind kk ih =>
    intro k p hkk hk hp hb
    refine zgo_at [4, 34] 8 ?_
    try simp -implicitDefEqProofs only [zgn_0, zgn_s, zct_0, zct_s, Nat.reduceEqDiff, Nat.reduceBEq, Nat.reduceAdd, Nat.reduceSub, Nat.reduceMul, Int.reduceAdd, Int.reduceSub, Int.reduceMul, Int.reduceNeg, Int.reduceLT, Int.reduceLE, Int.reduceEq, Nat.zero_add, true_and, and_true, false_and, and_false, true_imp_iff, false_imp_iff, not_true_eq_false, not_false_eq_true, if_true, if_false, Bool.false_eq_true, ite_true, ite_false, reduceIte, eq_self, Int.toNat_natCast, zst_0, zst_1, zst_2, zst_3, zst_4, true_or, or_true, or_false, false_or, ze_247_0, zB_247_0, ze_247_4, zB_247_4, ze_247_28, zB_247_28, ze_247_34, zB_247_34, ze_247_36, zB_247_36, ze_247_56, zB_247_56, ze_247_72, zB_247_72, ze_247_85, zB_247_85, ze_247_119, zB_247_119, ze_247_124, zB_247_124, ze_247_156, zB_247_156, ze_247_231, zB_247_231, ze_247_249, zB_247_249, ze_247_255, zB_247_255, ze_247_261, zB_247_261, ze_247_265, zB_247_265, ze_247_294, zB_247_294, ze_247_345, zB_247_345, ze_247_347, zB_247_347, ze_247_353, zB_247_353, ze_247_360, zB_247_360, zbr_t, zbr_f, zrun_c, zmI_s, zmL_s, zmR_s, zgt_0, zgt_s, zln_0, zln_s, zs1_0, zs1_1i, zs1_1r, zs1_1n, zs1_1l, zs1_s, zs2_0, zs2_1i, zs2_1r, zs2_1n, zs2_1l, zs2_s, zcn_eq, zcn_ne, zcn_lt, zcn_ge, zcn_gt, zcn_le, zpu_0, zpu_1, zpu_2, zx_iconst, zx_lconst, zx_ldc, zx_ldc2, zx_null, zx_iload, zx_lload, zx_aload, zx_istore, zx_lstore, zx_astore, zx_iinc, zx_iadd, zx_isub, zx_imul, zx_idiv, zx_irem, zx_iand, zx_ior, zx_ixor, zx_ishl, zx_ishr, zx_iushr, zx_i2b, zx_i2l, zx_l2i, zx_ladd, zx_lmul, zx_ldiv, zx_lrem, zx_land, zx_lor, zx_lshl, zx_lshr, zx_lcmp, zx_dupi, zx_dupr, zx_dup2l, zx_dup2i, zx_pop, zx_ifc, zx_icmp, zx_ifnullN, zx_ifnullS, zx_ifnonN, zx_ifnonS, zx_goto, zx_gotow, zx_switch, zx_iaload, zx_baload, zx_laload, zx_aaload, zx_iastore, zx_bastore, zx_lastore, zx_aastore, zx_alen, zx_newarray, zx_anewarray, zx_new, zx_getI, zx_getL, zx_getR, zx_putI, zx_putZ, zx_putL, zx_putR, zx_callS, zx_callV, zx_objinit, zx_cpyi, zx_cpyl, zx_mmax, zx_mmin, zx_mminl, zx_ireturn, zx_areturn, zx_lreturn, zx_return, zcs_0, zcs_1, zcv_1, zcs_2, zcv_2, zcs_3, zcv_3, zcs_4, zcv_4, zcs_5, zcv_5, zcs_6, zcv_6, zcs_7, zcv_7, Int.reduceToNat, Nat.reduceDiv, Nat.reduceMod, zJ, zC, zK_wA, zN_wA, zR_wA, zS_wA, zA_wA, zK_wR, zN_wR, zR_wR, zS_wR, zA_wR, zK_cp, zN_cp, zR_cp, zS_cp, zA_cp, zK_mp, zN_mp, zR_mp, zS_mp, zA_mp, zfa, zfmm, zfa_1, zfb_1, zfa_2, zfb_2, zfa_3, zfb_3, zfa_4, zfb_4, zfa_5, zfb_5, zfa_6, zfb_6, zfa_7, zfb_7, zfa_8, zfb_8, zfa_9, zfb_9, zfa_10, zfb_10, zfa_12, zfb_12, zfa_20, zfb_20, zfa_21, zfb_21, zfa_30, zfb_30, zfa_48, zfb_48, zfa_60, zfb_60, zfa_61, zfb_61, zfa_65, zfb_65, zfa_97, zfb_97, zfa_100, zfb_100, zfa_120, zfb_120, zfa_124, zfb_124, zfa_500, zfb_500, zfa_792, zfb_792, zfa_2989, zfb_2989, zfm_2, zfn_2, zfm_3, zfn_3, zfm_4, zfn_4, zfm_6, zfn_6, zfm_7, zfn_7, zfm_8, zfn_8, zfm_12, zfn_12, zfm_49, zfn_49, zfm_60, zfn_60, zfm_61, zfn_61, zfm_792, zfn_792, zfm_2989, zfn_2989, Int.zero_add, Int.add_zero, Int.zero_mul, Int.mul_zero, Int.one_mul, Int.mul_one, lk_106 hL, lr_106_29 hL, lk_129 hL, ln_129 hL]
    have hlt : k < 64 → 64 - (k + 1) < kk := by clear hb; omega
    refine zbr_i (fun q0 => ?_) (fun q0 => ?_)
    · have ek : k = 64 := by clear hb; omega
      subst ek
      exact hx p hp hb
    · have hk8 : k < 64 := by clear hb; omega
      have hlt := hlt hk8
      repeat (with_reducible refine And.intro ?_ ?_; · clear hb; omega)
      refine zbr_i (fun q1 => ?_) (fun q1 => ?_)
      · repeat (with_reducible refine And.intro ?_ ?_; · simp only [z32]; clear hb; omega)
        refine ih _ hlt (k + 1) p rfl (by clear hb; omega) hp (fun q hq => ?_)
        rw [hb q hq]
        constructor
        · rintro ⟨i, a, b, c⟩; exact ⟨i, by omega, b, c⟩
        · rintro ⟨i, a, b, c⟩
          have : i ≠ k := fun e => by rw [e] at c; clear hb; omega
          exact ⟨i, by omega, b, c⟩
      · rw [show Int.tdiv (k : Int) 8 = ((k / 8 : Nat) : Int) from rfl, zor1 hp (by clear hb; omega)]
        refine ⟨by decide, ?_⟩
        repeat (with_reducible refine And.intro ?_ ?_; · simp only [z32]; clear hb; omega)
        refine ih _ hlt (k + 1) (p ||| 2 ^ (k / 8)) rfl (by clear hb; omega) (zor_m p hp (k / 8) (by clear hb; omega)).1 (fun q hq => ?_)
        rw [zor_b p hp (k / 8) (by clear hb; omega) q hq]
        simp only [Bool.or_eq_true, beq_iff_eq]
        rw [hb q hq]
        constructor
        · rintro (⟨i, a, b, c⟩ | a)
          · exact ⟨i, by omega, b, c⟩
          · exact ⟨k, by omega, a.symm, by clear hb; omega⟩
        · rintro ⟨i, a, b, c⟩
          rcases Nat.lt_or_ge i k with g | g
          · exact Or.inl ⟨i, g, b, c⟩
          · have : i = k := by omega
            exact Or.inr (by rw [← b, this])
set_option maxRecDepth 100000 in
theorem zl_mfB {xs : Nat → Int} {L d b1 b2 : Nat} {H : zH} {Q : zQ} {p : Nat} (hL : zLay H) (hx : zEt xs L d b1 b2 false 247 56 [some (zr (some 106)), some (zi p), some (zi 256), none, none, none, none, none, none] [] (zMW H 132 0 256 (fun _ => -1)) Q) : ∀ (kk : Nat) (c : Nat), 256 - c = kk → (c ≤ 256) → zEt xs L d b1 b2 false 247 36 [some (zr (some 106)), some (zi p), some (zi c), none, none, none, none, none, none] [] (zMW H 132 0 c (fun _ => -1)) Q := by
  intro kk
  induction kk using Nat.strongRecOn with
  | ind kk ih =>
    intro c hkk hc
    refine zgo_at [36, 56] 8 ?_
    try simp -implicitDefEqProofs only [zgn_0, zgn_s, zct_0, zct_s, Nat.reduceEqDiff, Nat.reduceBEq, Nat.reduceAdd, Nat.reduceSub, Nat.reduceMul, Int.reduceAdd, Int.reduceSub, Int.reduceMul, Int.reduceNeg, Int.reduceLT, Int.reduceLE, Int.reduceEq, Nat.zero_add, true_and, and_true, false_and, and_false, true_imp_iff, false_imp_iff, not_true_eq_false, not_false_eq_true, if_true, if_false, Bool.false_eq_true, ite_true, ite_false, reduceIte, eq_self, Int.toNat_natCast, zst_0, zst_1, zst_2, zst_3, zst_4, true_or, or_true, or_false, false_or, ze_247_0, zB_247_0, ze_247_4, zB_247_4, ze_247_28, zB_247_28, ze_247_34, zB_247_34, ze_247_36, zB_247_36, ze_247_56, zB_247_56, ze_247_72, zB_247_72, ze_247_85, zB_247_85, ze_247_119, zB_247_119, ze_247_124, zB_247_124, ze_247_156, zB_247_156, ze_247_231, zB_247_231, ze_247_249, zB_247_249, ze_247_255, zB_247_255, ze_247_261, zB_247_261, ze_247_265, zB_247_265, ze_247_294, zB_247_294, ze_247_345, zB_247_345, ze_247_347, zB_247_347, ze_247_353, zB_247_353, ze_247_360, zB_247_360, zbr_t, zbr_f, zrun_c, zmI_s, zmL_s, zmR_s, zgt_0, zgt_s, zln_0, zln_s, zs1_0, zs1_1i, zs1_1r, zs1_1n, zs1_1l, zs1_s, zs2_0, zs2_1i, zs2_1r, zs2_1n, zs2_1l, zs2_s, zcn_eq, zcn_ne, zcn_lt, zcn_ge, zcn_gt, zcn_le, zpu_0, zpu_1, zpu_2, zx_iconst, zx_lconst, zx_ldc, zx_ldc2, zx_null, zx_iload, zx_lload, zx_aload, zx_istore, zx_lstore, zx_astore, zx_iinc, zx_iadd, zx_isub, zx_imul, zx_idiv, zx_irem, zx_iand, zx_ior, zx_ixor, zx_ishl, zx_ishr, zx_iushr, zx_i2b, zx_i2l, zx_l2i, zx_ladd, zx_lmul, zx_ldiv, zx_lrem, zx_land, zx_lor, zx_lshl, zx_lshr, zx_lcmp, zx_dupi, zx_dupr, zx_dup2l, zx_dup2i, zx_pop, zx_ifc, zx_icmp, zx_ifnullN, zx_ifnullS, zx_ifnonN, zx_ifnonS, zx_goto, zx_gotow, zx_switch, zx_iaload, zx_baload, zx_laload, zx_aaload, zx_iastore, zx_bastore, zx_lastore, zx_aastore, zx_alen, zx_newarray, zx_anewarray, zx_new, zx_getI, zx_getL, zx_getR, zx_putI, zx_putZ, zx_putL, zx_putR, zx_callS, zx_callV, zx_objinit, zx_cpyi, zx_cpyl, zx_mmax, zx_mmin, zx_mminl, zx_ireturn, zx_areturn, zx_lreturn, zx_return, zcs_0, zcs_1, zcv_1, zcs_2, zcv_2, zcs_3, zcv_3, zcs_4, zcv_4, zcs_5, zcv_5, zcs_6, zcv_6, zcs_7, zcv_7, Int.reduceToNat, Nat.reduceDiv, Nat.reduceMod, zJ, zC, zK_wA, zN_wA, zR_wA, zS_wA, zA_wA, zK_wR, zN_wR, zR_wR, zS_wR, zA_wR, zK_cp, zN_cp, zR_cp, zS_cp, zA_cp, zK_mp, zN_mp, zR_mp, zS_mp, zA_mp, zfa, zfmm, zfa_1, zfb_1, zfa_2, zfb_2, zfa_3, zfb_3, zfa_4, zfb_4, zfa_5, zfb_5, zfa_6, zfb_6, zfa_7, zfb_7, zfa_8, zfb_8, zfa_9, zfb_9, zfa_10, zfb_10, zfa_12, zfb_12, zfa_20, zfb_20, zfa_21, zfb_21, zfa_30, zfb_30, zfa_48, zfb_48, zfa_60, zfb_60, zfa_61, zfb_61, zfa_65, zfb_65, zfa_97, zfb_97, zfa_100, zfb_100, zfa_120, zfb_120, zfa_124, zfb_124, zfa_500, zfb_500, zfa_792, zfb_792, zfa_2989, zfb_2989, zfm_2, zfn_2, zfm_3, zfn_3, zfm_4, zfn_4, zfm_6, zfn_6, zfm_7, zfn_7, zfm_8, zfn_8, zfm_12, zfn_12, zfm_49, zfn_49, zfm_60, zfn_60, zfm_61, zfn_61, zfm_792, zfn_792, zfm_2989, zfn_2989, Int.zero_add, Int.add_zero, Int.zero_mul, Int.mul_zero, Int.one_mul, Int.mul_one, lk_106 hL, lr_106_33 hL, lk_132 hL, ln_132 hL]
    refine zbr_i (fun q => ?_) (fun q => ?_)
    · have e9 : c = 256 := by omega
      subst e9
      exact hx
    · repeat (with_reducible refine And.intro ?_ ?_; · first | omega | (simp only [z32, z64]; omega))
      have ih2 := ih _ (by omega) (c + 1) rfl (by omega)
      rw [← zMW_s, Nat.zero_add] at ih2
      exact ih2
set_option maxRecDepth 100000 in
theorem zl_mfD {xs : Nat → Int} {L d b1 b2 : Nat} {H : zH} {Q : zQ} {t p : Nat} {l5 l6 l7 l8 : Option zV} (hL : zLay H) (ht : t < 40) (hs : 0 ≤ zA H 117 t ∧ zA H 117 t ≤ 6) (hr : ∀ i : Nat, (i : Int) < zA H 117 t → 0 ≤ zA H 116 (6 * t + i) ∧ zA H 116 (6 * t + i) ≤ 7) (hx : ∀ i : Int, zEt xs L d b1 b2 false 247 119 [some (zr (some 106)), some (zi p), some (zi t), some (zi (zrmk (fun j => zA H 116 (6 * t + j)) (zA H 117 t).toNat : Nat)), some (zi i), l5, l6, l7, l8] [] H Q) : ∀ (kk : Nat) (i : Nat), (zA H 117 t).toNat - i = kk → ((i : Int) ≤ zA H 117 t) → zEt xs L d b1 b2 false 247 85 [some (zr (some 106)), some (zi p), some (zi t), some (zi (zrmk (fun j => zA H 116 (6 * t + j)) i : Nat)), some (zi i), l5, l6, l7, l8] [] H Q := by
  intro kk
  induction kk using Nat.strongRecOn with
  | ind kk ih =>
    intro i hkk hi
    refine zgo_at [85, 119] 8 ?_
    try simp -implicitDefEqProofs only [zgn_0, zgn_s, zct_0, zct_s, Nat.reduceEqDiff, Nat.reduceBEq, Nat.reduceAdd, Nat.reduceSub, Nat.reduceMul, Int.reduceAdd, Int.reduceSub, Int.reduceMul, Int.reduceNeg, Int.reduceLT, Int.reduceLE, Int.reduceEq, Nat.zero_add, true_and, and_true, false_and, and_false, true_imp_iff, false_imp_iff, not_true_eq_false, not_false_eq_true, if_true, if_false, Bool.false_eq_true, ite_true, ite_false, reduceIte, eq_self, Int.toNat_natCast, zst_0, zst_1, zst_2, zst_3, zst_4, true_or, or_true, or_false, false_or, ze_247_0, zB_247_0, ze_247_4, zB_247_4, ze_247_28, zB_247_28, ze_247_34, zB_247_34, ze_247_36, zB_247_36, ze_247_56, zB_247_56, ze_247_72, zB_247_72, ze_247_85, zB_247_85, ze_247_119, zB_247_119, ze_247_124, zB_247_124, ze_247_156, zB_247_156, ze_247_231, zB_247_231, ze_247_249, zB_247_249, ze_247_255, zB_247_255, ze_247_261, zB_247_261, ze_247_265, zB_247_265, ze_247_294, zB_247_294, ze_247_345, zB_247_345, ze_247_347, zB_247_347, ze_247_353, zB_247_353, ze_247_360, zB_247_360, zbr_t, zbr_f, zrun_c, zmI_s, zmL_s, zmR_s, zgt_0, zgt_s, zln_0, zln_s, zs1_0, zs1_1i, zs1_1r, zs1_1n, zs1_1l, zs1_s, zs2_0, zs2_1i, zs2_1r, zs2_1n, zs2_1l, zs2_s, zcn_eq, zcn_ne, zcn_lt, zcn_ge, zcn_gt, zcn_le, zpu_0, zpu_1, zpu_2, zx_iconst, zx_lconst, zx_ldc, zx_ldc2, zx_null, zx_iload, zx_lload, zx_aload, zx_istore, zx_lstore, zx_astore, zx_iinc, zx_iadd, zx_isub, zx_imul, zx_idiv, zx_irem, zx_iand, zx_ior, zx_ixor, zx_ishl, zx_ishr, zx_iushr, zx_i2b, zx_i2l, zx_l2i, zx_ladd, zx_lmul, zx_ldiv, zx_lrem, zx_land, zx_lor, zx_lshl, zx_lshr, zx_lcmp, zx_dupi, zx_dupr, zx_dup2l, zx_dup2i, zx_pop, zx_ifc, zx_icmp, zx_ifnullN, zx_ifnullS, zx_ifnonN, zx_ifnonS, zx_goto, zx_gotow, zx_switch, zx_iaload, zx_baload, zx_laload, zx_aaload, zx_iastore, zx_bastore, zx_lastore, zx_aastore, zx_alen, zx_newarray, zx_anewarray, zx_new, zx_getI, zx_getL, zx_getR, zx_putI, zx_putZ, zx_putL, zx_putR, zx_callS, zx_callV, zx_objinit, zx_cpyi, zx_cpyl, zx_mmax, zx_mmin, zx_mminl, zx_ireturn, zx_areturn, zx_lreturn, zx_return, zcs_0, zcs_1, zcv_1, zcs_2, zcv_2, zcs_3, zcv_3, zcs_4, zcv_4, zcs_5, zcv_5, zcs_6, zcv_6, zcs_7, zcv_7, Int.reduceToNat, Nat.reduceDiv, Nat.reduceMod, zJ, zC, zK_wA, zN_wA, zR_wA, zS_wA, zA_wA, zK_wR, zN_wR, zR_wR, zS_wR, zA_wR, zK_cp, zN_cp, zR_cp, zS_cp, zA_cp, zK_mp, zN_mp, zR_mp, zS_mp, zA_mp, zfa, zfmm, zfa_1, zfb_1, zfa_2, zfb_2, zfa_3, zfb_3, zfa_4, zfb_4, zfa_5, zfb_5, zfa_6, zfb_6, zfa_7, zfb_7, zfa_8, zfb_8, zfa_9, zfb_9, zfa_10, zfb_10, zfa_12, zfb_12, zfa_20, zfb_20, zfa_21, zfb_21, zfa_30, zfb_30, zfa_48, zfb_48, zfa_60, zfb_60, zfa_61, zfb_61, zfa_65, zfb_65, zfa_97, zfb_97, zfa_100, zfb_100, zfa_120, zfb_120, zfa_124, zfb_124, zfa_500, zfb_500, zfa_792, zfb_792, zfa_2989, zfb_2989, zfm_2, zfn_2, zfm_3, zfn_3, zfm_4, zfn_4, zfm_6, zfn_6, zfm_7, zfn_7, zfm_8, zfn_8, zfm_12, zfn_12, zfm_49, zfn_49, zfm_60, zfn_60, zfm_61, zfn_61, zfm_792, zfn_792, zfm_2989, zfn_2989, Int.zero_add, Int.add_zero, Int.zero_mul, Int.mul_zero, Int.one_mul, Int.mul_one, lk_106 hL, lr_106_14 hL, lk_117 hL, ln_117 hL, lr_106_13 hL, lk_116 hL, ln_116 hL]
    repeat (with_reducible refine And.intro ?_ ?_; · first | omega | (simp only [z32, z64]; omega))
    refine zbr_i (fun q0 => ?_) (fun q0 => ?_)
    · have ei : i = (zA H 117 t).toNat := by omega
      subst ei
      exact hx _
    · have r := hr i (by omega)
      have hb := zrmk_b (f := (fun j => zA H 116 (6 * t + j))) i (fun j hj => hr j (by omega))
      repeat (with_reducible refine And.intro ?_ ?_; · first | omega | (simp only [z32, z64]; omega))
      obtain ⟨k, ek⟩ : ∃ k : Nat, zA H 116 (6 * t + i) = k := ⟨(zA H 116 (6 * t + i)).toNat, by omega⟩
      have hz := zor_m _ hb k (by omega)
      rw [ek, zor1 hb (by omega)]
      repeat (with_reducible refine And.intro ?_ ?_; · first | omega | (simp only [z32, z64]; omega))
      have ih2 := ih _ (by omega) (i + 1) rfl (by omega)
      rw [zrmk_s] at ih2
      simp only [ek, Int.toNat_natCast] at ih2
      exact ih2
