theorem zbc : ∀ m : Nat, m < 256 → (-2147483648 ≤ ((m : Int) - zand (zushr (m : Int) 1) 1431655765) ∧ ((m : Int) - zand (zushr (m : Int) 1) 1431655765) ≤ 2147483647) ∧ (-2147483648 ≤ (zand ((m : Int) - zand (zushr (m : Int) 1) 1431655765) 858993459 + zand (zushr ((m : Int) - zand (zushr (m : Int) 1) 1431655765) 2) 858993459) ∧ (zand ((m : Int) - zand (zushr (m : Int) 1) 1431655765) 858993459 + zand (zushr ((m : Int) - zand (zushr (m : Int) 1) 1431655765) 2) 858993459) ≤ 2147483647) ∧ (-2147483648 ≤ ((zand ((m : Int) - zand (zushr (m : Int) 1) 1431655765) 858993459 + zand (zushr ((m : Int) - zand (zushr (m : Int) 1) 1431655765) 2) 858993459) + zushr (zand ((m : Int) - zand (zushr (m : Int) 1) 1431655765) 858993459 + zand (zushr ((m : Int) - zand (zushr (m : Int) 1) 1431655765) 2) 858993459) 4) ∧ ((zand ((m : Int) - zand (zushr (m : Int) 1) 1431655765) 858993459 + zand (zushr ((m : Int) - zand (zushr (m : Int) 1) 1431655765) 2) 858993459) + zushr (zand ((m : Int) - zand (zushr (m : Int) 1) 1431655765) 858993459 + zand (zushr ((m : Int) - zand (zushr (m : Int) 1) 1431655765) 2) 858993459) 4) ≤ 2147483647) ∧ (-2147483648 ≤ ((zand ((zand ((m : Int) - zand (zushr (m : Int) 1) 1431655765) 858993459 + zand (zushr ((m : Int) - zand (zushr (m : Int) 1) 1431655765) 2) 858993459) + zushr (zand ((m : Int) - zand (zushr (m : Int) 1) 1431655765) 858993459 + zand (zushr ((m : Int) - zand (zushr (m : Int) 1) 1431655765) 2) 858993459) 4) 252645135) + zushr (zand ((zand ((m : Int) - zand (zushr (m : Int) 1) 1431655765) 858993459 + zand (zushr ((m : Int) - zand (zushr (m : Int) 1) 1431655765) 2) 858993459) + zushr (zand ((m : Int) - zand (zushr (m : Int) 1) 1431655765) 858993459 + zand (zushr ((m : Int) - zand (zushr (m : Int) 1) 1431655765) 2) 858993459) 4) 252645135) 8) ∧ ((zand ((zand ((m : Int) - zand (zushr (m : Int) 1) 1431655765) 858993459 + zand (zushr ((m : Int) - zand (zushr (m : Int) 1) 1431655765) 2) 858993459) + zushr (zand ((m : Int) - zand (zushr (m : Int) 1) 1431655765) 858993459 + zand (zushr ((m : Int) - zand (zushr (m : Int) 1) 1431655765) 2) 858993459) 4) 252645135) + zushr (zand ((zand ((m : Int) - zand (zushr (m : Int) 1) 1431655765) 858993459 + zand (zushr ((m : Int) - zand (zushr (m : Int) 1) 1431655765) 2) 858993459) + zushr (zand ((m : Int) - zand (zushr (m : Int) 1) 1431655765) 858993459 + zand (zushr ((m : Int) - zand (zushr (m : Int) 1) 1431655765) 2) 858993459) 4) 252645135) 8) ≤ 2147483647) ∧ (-2147483648 ≤ (((zand ((zand ((m : Int) - zand (zushr (m : Int) 1) 1431655765) 858993459 + zand (zushr ((m : Int) - zand (zushr (m : Int) 1) 1431655765) 2) 858993459) + zushr (zand ((m : Int) - zand (zushr (m : Int) 1) 1431655765) 858993459 + zand (zushr ((m : Int) - zand (zushr (m : Int) 1) 1431655765) 2) 858993459) 4) 252645135) + zushr (zand ((zand ((m : Int) - zand (zushr (m : Int) 1) 1431655765) 858993459 + zand (zushr ((m : Int) - zand (zushr (m : Int) 1) 1431655765) 2) 858993459) + zushr (zand ((m : Int) - zand (zushr (m : Int) 1) 1431655765) 858993459 + zand (zushr ((m : Int) - zand (zushr (m : Int) 1) 1431655765) 2) 858993459) 4) 252645135) 8) + zushr ((zand ((zand ((m : Int) - zand (zushr (m : Int) 1) 1431655765) 858993459 + zand (zushr ((m : Int) - zand (zushr (m : Int) 1) 1431655765) 2) 858993459) + zushr (zand ((m : Int) - zand (zushr (m : Int) 1) 1431655765) 858993459 + zand (zushr ((m : Int) - zand (zushr (m : Int) 1) 1431655765) 2) 858993459) 4) 252645135) + zushr (zand ((zand ((m : Int) - zand (zushr (m : Int) 1) 1431655765) 858993459 + zand (zushr ((m : Int) - zand (zushr (m : Int) 1) 1431655765) 2) 858993459) + zushr (zand ((m : Int) - zand (zushr (m : Int) 1) 1431655765) 858993459 + zand (zushr ((m : Int) - zand (zushr (m : Int) 1) 1431655765) 2) 858993459) 4) 252645135) 8) 16) ∧ (((zand ((zand ((m : Int) - zand (zushr (m : Int) 1) 1431655765) 858993459 + zand (zushr ((m : Int) - zand (zushr (m : Int) 1) 1431655765) 2) 858993459) + zushr (zand ((m : Int) - zand (zushr (m : Int) 1) 1431655765) 858993459 + zand (zushr ((m : Int) - zand (zushr (m : Int) 1) 1431655765) 2) 858993459) 4) 252645135) + zushr (zand ((zand ((m : Int) - zand (zushr (m : Int) 1) 1431655765) 858993459 + zand (zushr ((m : Int) - zand (zushr (m : Int) 1) 1431655765) 2) 858993459) + zushr (zand ((m : Int) - zand (zushr (m : Int) 1) 1431655765) 858993459 + zand (zushr ((m : Int) - zand (zushr (m : Int) 1) 1431655765) 2) 858993459) 4) 252645135) 8) + zushr ((zand ((zand ((m : Int) - zand (zushr (m : Int) 1) 1431655765) 858993459 + zand (zushr ((m : Int) - zand (zushr (m : Int) 1) 1431655765) 2) 858993459) + zushr (zand ((m : Int) - zand (zushr (m : Int) 1) 1431655765) 858993459 + zand (zushr ((m : Int) - zand (zushr (m : Int) 1) 1431655765) 2) 858993459) 4) 252645135) + zushr (zand ((zand ((m : Int) - zand (zushr (m : Int) 1) 1431655765) 858993459 + zand (zushr ((m : Int) - zand (zushr (m : Int) 1) 1431655765) 2) 858993459) + zushr (zand ((m : Int) - zand (zushr (m : Int) 1) 1431655765) 858993459 + zand (zushr ((m : Int) - zand (zushr (m : Int) 1) 1431655765) 2) 858993459) 4) 252645135) 8) 16) ≤ 2147483647) ∧ zand (((zand ((zand ((m : Int) - zand (zushr (m : Int) 1) 1431655765) 858993459 + zand (zushr ((m : Int) - zand (zushr (m : Int) 1) 1431655765) 2) 858993459) + zushr (zand ((m : Int) - zand (zushr (m : Int) 1) 1431655765) 858993459 + zand (zushr ((m : Int) - zand (zushr (m : Int) 1) 1431655765) 2) 858993459) 4) 252645135) + zushr (zand ((zand ((m : Int) - zand (zushr (m : Int) 1) 1431655765) 858993459 + zand (zushr ((m : Int) - zand (zushr (m : Int) 1) 1431655765) 2) 858993459) + zushr (zand ((m : Int) - zand (zushr (m : Int) 1) 1431655765) 858993459 + zand (zushr ((m : Int) - zand (zushr (m : Int) 1) 1431655765) 2) 858993459) 4) 252645135) 8) + zushr ((zand ((zand ((m : Int) - zand (zushr (m : Int) 1) 1431655765) 858993459 + zand (zushr ((m : Int) - zand (zushr (m : Int) 1) 1431655765) 2) 858993459) + zushr (zand ((m : Int) - zand (zushr (m : Int) 1) 1431655765) 858993459 + zand (zushr ((m : Int) - zand (zushr (m : Int) 1) 1431655765) 2) 858993459) 4) 252645135) + zushr (zand ((zand ((m : Int) - zand (zushr (m : Int) 1) 1431655765) 858993459 + zand (zushr ((m : Int) - zand (zushr (m : Int) 1) 1431655765) 2) 858993459) + zushr (zand ((m : Int) - zand (zushr (m : Int) 1) 1431655765) 858993459 + zand (zushr ((m : Int) - zand (zushr (m : Int) 1) 1431655765) 2) 858993459) 4) 252645135) 8) 16) 63 = ((zpc m : Nat) : Int) := by decide +kernel
set_option maxRecDepth 100000 in
theorem zc_bitCount {xs : Nat → Int} {L d b1 b2 : Nat} {H : zH} {Q : zQ} {m : Nat} (hm : m < 256) (h : Q (zpc m : Nat) H) : zEm xs L d b1 b2 86 [zi m] H Q := by
  obtain ⟨k1, k2, k3, k4, k5, e⟩ := zbc m hm
  rw [← e] at h
  refine zem_86 (zgo_at [] 8 ?_)
  try simp only [zgn_0, zgn_s, zct_0, zct_s, Nat.reduceEqDiff, Nat.reduceBEq, Nat.reduceAdd, Nat.reduceSub, Nat.reduceMul, Int.reduceAdd, Int.reduceSub, Int.reduceMul, Int.reduceNeg, Int.reduceLT, Int.reduceLE, Int.reduceEq, Nat.zero_add, true_and, and_true, false_and, and_false, true_imp_iff, false_imp_iff, not_true_eq_false, not_false_eq_true, if_true, if_false, Bool.false_eq_true, ite_true, ite_false, reduceIte, eq_self, Int.toNat_natCast, zst_0, zst_1, zst_2, zst_3, zst_4, true_or, or_true, or_false, false_or, ze_86_0, zB_86_0, zbr_t, zbr_f, zrun_c, zmI_s, zmL_s, zmR_s, zgt_0, zgt_s, zln_0, zln_s, zs1_0, zs1_1i, zs1_1r, zs1_1n, zs1_1l, zs1_s, zs2_0, zs2_1i, zs2_1r, zs2_1n, zs2_1l, zs2_s, zcn_eq, zcn_ne, zcn_lt, zcn_ge, zcn_gt, zcn_le, zpu_0, zpu_1, zpu_2, zx_iconst, zx_lconst, zx_ldc, zx_ldc2, zx_null, zx_iload, zx_lload, zx_aload, zx_istore, zx_lstore, zx_astore, zx_iinc, zx_iadd, zx_isub, zx_imul, zx_idiv, zx_irem, zx_iand, zx_ior, zx_ixor, zx_ishl, zx_ishr, zx_iushr, zx_i2b, zx_i2l, zx_l2i, zx_ladd, zx_lmul, zx_ldiv, zx_lrem, zx_land, zx_lor, zx_lshl, zx_lshr, zx_lcmp, zx_dupi, zx_dupr, zx_dup2l, zx_dup2i, zx_pop, zx_ifc, zx_icmp, zx_ifnullN, zx_ifnullS, zx_ifnonN, zx_ifnonS, zx_goto, zx_gotow, zx_switch, zx_iaload, zx_baload, zx_laload, zx_aaload, zx_iastore, zx_bastore, zx_lastore, zx_aastore, zx_alen, zx_newarray, zx_anewarray, zx_new, zx_getI, zx_getL, zx_getR, zx_putI, zx_putZ, zx_putL, zx_putR, zx_callS, zx_callV, zx_objinit, zx_cpyi, zx_cpyl, zx_mmax, zx_mmin, zx_mminl, zx_ireturn, zx_areturn, zx_lreturn, zx_return, zcs_0, zcs_1, zcv_1, zcs_2, zcv_2, zcs_3, zcv_3, zcs_4, zcv_4, zcs_5, zcv_5, zcs_6, zcv_6, zcs_7, zcv_7, Int.reduceToNat, Nat.reduceDiv, Nat.reduceMod, zJ, zC, zK_wA, zN_wA, zR_wA, zS_wA, zA_wA, zK_wR, zN_wR, zR_wR, zS_wR, zA_wR, zK_cp, zN_cp, zR_cp, zS_cp, zA_cp, zK_mp, zN_mp, zR_mp, zS_mp, zA_mp, zfa, zfmm, zfa_1, zfb_1, zfa_2, zfb_2, zfa_3, zfb_3, zfa_4, zfb_4, zfa_5, zfb_5, zfa_6, zfb_6, zfa_7, zfb_7, zfa_8, zfb_8, zfa_9, zfb_9, zfa_10, zfb_10, zfa_12, zfb_12, zfa_20, zfb_20, zfa_21, zfb_21, zfa_30, zfb_30, zfa_48, zfb_48, zfa_60, zfb_60, zfa_61, zfb_61, zfa_65, zfb_65, zfa_97, zfb_97, zfa_100, zfb_100, zfa_120, zfb_120, zfa_124, zfb_124, zfa_500, zfb_500, zfa_792, zfb_792, zfa_2989, zfb_2989, zfm_2, zfn_2, zfm_3, zfn_3, zfm_4, zfn_4, zfm_6, zfn_6, zfm_7, zfn_7, zfm_8, zfn_8, zfm_12, zfn_12, zfm_49, zfn_49, zfm_60, zfn_60, zfm_61, zfn_61, zfm_792, zfn_792, zfm_2989, zfn_2989, Int.zero_add, Int.add_zero, Int.zero_mul, Int.mul_zero, Int.one_mul, Int.mul_one]
  exact ⟨k1, k2, k3, k4, k5, h⟩
set_option maxRecDepth 100000 in
theorem zc_wrongIf {xs : Nat → Int} {L d b1 b2 : Nat} {H : zH} {Q : zQ} {c q : Nat} (hL : zLay H) (hc : c < 8) (hq : q < 8) (hb : 0 ≤ zA H 71 (8 * c + q) ∧ zA H 71 (8 * c + q) ≤ 1000) (hb2 : 0 ≤ zA H 72 c ∧ zA H 72 c ≤ 1000) (h : Q (zA H 72 c - zA H 71 (8 * c + q)) H) : zEm xs L d b1 b2 87 [zr (some 70), zi c, zi q] H Q := by
  refine zem_87 (zgo_at [] 8 ?_)
  try simp only [zgn_0, zgn_s, zct_0, zct_s, Nat.reduceEqDiff, Nat.reduceBEq, Nat.reduceAdd, Nat.reduceSub, Nat.reduceMul, Int.reduceAdd, Int.reduceSub, Int.reduceMul, Int.reduceNeg, Int.reduceLT, Int.reduceLE, Int.reduceEq, Nat.zero_add, true_and, and_true, false_and, and_false, true_imp_iff, false_imp_iff, not_true_eq_false, not_false_eq_true, if_true, if_false, Bool.false_eq_true, ite_true, ite_false, reduceIte, eq_self, Int.toNat_natCast, zst_0, zst_1, zst_2, zst_3, zst_4, true_or, or_true, or_false, false_or, ze_87_0, zB_87_0, zbr_t, zbr_f, zrun_c, zmI_s, zmL_s, zmR_s, zgt_0, zgt_s, zln_0, zln_s, zs1_0, zs1_1i, zs1_1r, zs1_1n, zs1_1l, zs1_s, zs2_0, zs2_1i, zs2_1r, zs2_1n, zs2_1l, zs2_s, zcn_eq, zcn_ne, zcn_lt, zcn_ge, zcn_gt, zcn_le, zpu_0, zpu_1, zpu_2, zx_iconst, zx_lconst, zx_ldc, zx_ldc2, zx_null, zx_iload, zx_lload, zx_aload, zx_istore, zx_lstore, zx_astore, zx_iinc, zx_iadd, zx_isub, zx_imul, zx_idiv, zx_irem, zx_iand, zx_ior, zx_ixor, zx_ishl, zx_ishr, zx_iushr, zx_i2b, zx_i2l, zx_l2i, zx_ladd, zx_lmul, zx_ldiv, zx_lrem, zx_land, zx_lor, zx_lshl, zx_lshr, zx_lcmp, zx_dupi, zx_dupr, zx_dup2l, zx_dup2i, zx_pop, zx_ifc, zx_icmp, zx_ifnullN, zx_ifnullS, zx_ifnonN, zx_ifnonS, zx_goto, zx_gotow, zx_switch, zx_iaload, zx_baload, zx_laload, zx_aaload, zx_iastore, zx_bastore, zx_lastore, zx_aastore, zx_alen, zx_newarray, zx_anewarray, zx_new, zx_getI, zx_getL, zx_getR, zx_putI, zx_putZ, zx_putL, zx_putR, zx_callS, zx_callV, zx_objinit, zx_cpyi, zx_cpyl, zx_mmax, zx_mmin, zx_mminl, zx_ireturn, zx_areturn, zx_lreturn, zx_return, zcs_0, zcs_1, zcv_1, zcs_2, zcv_2, zcs_3, zcv_3, zcs_4, zcv_4, zcs_5, zcv_5, zcs_6, zcv_6, zcs_7, zcv_7, Int.reduceToNat, Nat.reduceDiv, Nat.reduceMod, zJ, zC, zK_wA, zN_wA, zR_wA, zS_wA, zA_wA, zK_wR, zN_wR, zR_wR, zS_wR, zA_wR, zK_cp, zN_cp, zR_cp, zS_cp, zA_cp, zK_mp, zN_mp, zR_mp, zS_mp, zA_mp, zfa, zfmm, zfa_1, zfb_1, zfa_2, zfb_2, zfa_3, zfb_3, zfa_4, zfb_4, zfa_5, zfb_5, zfa_6, zfb_6, zfa_7, zfb_7, zfa_8, zfb_8, zfa_9, zfb_9, zfa_10, zfb_10, zfa_12, zfb_12, zfa_20, zfb_20, zfa_21, zfb_21, zfa_30, zfb_30, zfa_48, zfb_48, zfa_60, zfb_60, zfa_61, zfb_61, zfa_65, zfb_65, zfa_97, zfb_97, zfa_100, zfb_100, zfa_120, zfb_120, zfa_124, zfb_124, zfa_500, zfb_500, zfa_792, zfb_792, zfa_2989, zfb_2989, zfm_2, zfn_2, zfm_3, zfn_3, zfm_4, zfn_4, zfm_6, zfn_6, zfm_7, zfn_7, zfm_8, zfn_8, zfm_12, zfn_12, zfm_49, zfn_49, zfm_60, zfn_60, zfm_61, zfn_61, zfm_792, zfn_792, zfm_2989, zfn_2989, Int.zero_add, Int.add_zero, Int.zero_mul, Int.mul_zero, Int.one_mul, Int.mul_one, lk_70 hL, lr_70_0 hL, lk_71 hL, ln_71 hL, lr_70_1 hL, lk_72 hL, ln_72 hL]
  rw [show c * 8 + q = 8 * c + q by omega]
  repeat (with_reducible refine And.intro ?_ ?_; · first | omega | (simp only [z32, z64]; omega))
  exact h
def zA0 (j : Nat) : Int := if j = 0 then 1 else 0
def zfal (W : Nat → Nat → Nat) (n m : Nat) : Nat → Int := zfo (fun m B => zfgs B (W (zpc m)) n m 8) zA0 m
theorem zfal_s (W : Nat → Nat → Nat) (n m : Nat) : zfal W n (m + 1) = zfgs (zfal W n m) (W (zpc m)) n m 8 := rfl
theorem zfgs_nn {A : Nat → Int} {W : Nat → Nat} {n m : Nat} (hA : ∀ j, 0 ≤ A j) : ∀ k j : Nat, 0 ≤ zfgs A W n m k j
  | 0, j => hA j
  | k + 1, j => by
    have ih := zfgs_nn (W := W) (n := n) (m := m) hA k
    rw [zfgs_s]
    unfold zfg
    split
    · exact ih j
    · unfold zfd
      split
      · have := ih j
        have := ih (7 * m + (j - (7 * (m ||| 2 ^ k) + W k)))
        omega
      · exact ih j
theorem zfal_nn (W : Nat → Nat → Nat) (n : Nat) : ∀ m j : Nat, 0 ≤ zfal W n m j
  | 0, j => by show 0 ≤ zA0 j; unfold zA0; split <;> omega
  | m + 1, j => by rw [zfal_s]; exact zfgs_nn (zfal_nn W n m) 8 j
def ztb (x _w : Nat) : Int := [40320, 5040, 720, 120, 24, 6, 2, 1, 1].getD (zpc x) 1
theorem ztb_s : ∀ m : Nat, m < 255 → zsm (fun d => if zbt1 m d = true then 0 else ztb (m ||| 2 ^ d) 0) 8 = ztb m 0 := by decide +kernel
theorem ztb_1 : ∀ m : Nat, m < 256 → 1 ≤ ztb m 0 := by decide +kernel
theorem ztb_V {W : Nat → Nat} {n m w : Nat} (hm : m < 255) : zVs ztb W n m w ≤ ztb m w := by
  show _ ≤ ztb m 0
  rw [← ztb_s m hm]
  refine zsm_le 8 (fun d hd => ?_)
  split
  · exact Int.le_refl 0
  · have := ztb_1 (m ||| 2 ^ d) (zor_m m (by omega) d hd).1
    split
    · exact Int.le_refl _
    · omega
theorem zGp_A0 {U : Nat → Nat → Int} {n : Nat} (hn : 1 ≤ n) (hn7 : n ≤ 7) : zGp zA0 U n 0 = U 0 0 := by
  have e : zGp zA0 U n 0 = zsm (fun _ => 0) 256 + U 0 0 := by
    refine zsm_pt2 (p := 0) 256 (by omega) (fun t ht hne => ?_) ?_
    · rw [if_pos (by omega)]
      unfold zRw
      rw [zsm_c (g := fun _ => 0) n (fun w hw => by unfold zA0; rw [if_neg (by omega), Int.zero_mul]), zsm_z]
    · rw [if_pos (by omega)]
      have e2 : zRw zA0 U n 0 = zsm (fun _ => 0) n + U 0 0 := by
        refine zsm_pt2 (p := 0) n (by omega) (fun t ht hne => ?_) ?_
        · unfold zA0; rw [if_neg (by omega), Int.zero_mul]
        · unfold zA0; rw [if_pos (by omega), Int.one_mul, Int.zero_add]
      rw [e2, zsm_z]
  rw [e, zsm_z, Int.zero_add]
theorem zfal_g {W : Nat → Nat → Nat} {n : Nat} (hn : 1 ≤ n) (hn7 : n ≤ 7) : ∀ m : Nat, m ≤ 255 → zGp (zfal W n m) ztb n m ≤ 40320
  | 0, _ => by rw [show zfal W n 0 = zA0 from rfl, zGp_A0 hn hn7]; decide
  | m + 1, h => by
    rw [zfal_s]
    exact Int.le_trans (zfgs_le hn7 (by omega) (fun w _ => zfal_nn W n m _) (fun w _ => ztb_V (by omega))) (zfal_g hn hn7 m (by omega))
theorem zfal_ub {W : Nat → Nat → Nat} {n m x w : Nat} (hn : 1 ≤ n) (hn7 : n ≤ 7) (hm : m ≤ 255) (hx : m ≤ x) (hx2 : x < 256) (hw : w < n) : zfal W n m (7 * x + w) ≤ 40320 := by
  have h1 := zfal_g (W := W) hn hn7 m hm
  have h2 : zRw (zfal W n m) ztb n x ≤ zGp (zfal W n m) ztb n m := by
    have := zsm_ge (f := fun x => if m ≤ x then zRw (zfal W n m) ztb n x else 0) 256 (fun t ht => by
      split
      · exact zsm_nn n (fun w hw => Int.mul_nonneg (zfal_nn W n m _) (by have := ztb_1 t ht; exact Int.le_trans (by decide) this))
      · exact Int.le_refl 0) x hx2
    rw [if_pos hx] at this
    exact this
  have h3 := zsm_ge (f := fun w => zfal W n m (7 * x + w) * ztb x w) n (fun w hw => Int.mul_nonneg (zfal_nn W n m _) (by have := ztb_1 x hx2; exact Int.le_trans (by decide) this)) w hw
  have h4 : zfal W n m (7 * x + w) * 1 ≤ zfal W n m (7 * x + w) * ztb x w := Int.mul_le_mul_of_nonneg_left (ztb_1 x hx2) (zfal_nn W n m _)
  rw [Int.mul_one] at h4
  have h5 : zsm (fun w => zfal W n m (7 * x + w) * ztb x w) n = zRw (zfal W n m) ztb n x := rfl
  omega
theorem zfgs_ub {A : Nat → Int} {W : Nat → Nat} {n m : Nat} (hn7 : n ≤ 7) (hm : m < 255) (hA0 : ∀ j, 0 ≤ A j) (hA : ∀ x w : Nat, m ≤ x → x < 256 → w < n → A (7 * x + w) ≤ 40320) : ∀ k : Nat, k ≤ 8 → ∀ x w : Nat, m ≤ x → x < 256 → w < n → zfgs A W n m k (7 * x + w) ≤ 40320 * (k + 1)
  | 0, _, x, w, h1, h2, h3 => by have := hA x w h1 h2 h3; show A (7 * x + w) ≤ _; omega
  | k + 1, hk, x, w, h1, h2, h3 => by
    have ih := zfgs_ub (W := W) hn7 hm hA0 hA k (by omega) x w h1 h2 h3
    have hr := fun w hw => zfgs_row (A := A) (W := W) (n := n) hn7 (show m < 256 by omega) k (by omega) w hw
    rw [zfgs_s]
    unfold zfg
    split
    · omega
    · unfold zfd
      split
      · rename_i hb
        rw [hr (7 * x + w - (7 * (m ||| 2 ^ k) + W k)) (by omega)]
        have := hA m (7 * x + w - (7 * (m ||| 2 ^ k) + W k)) (by omega) (by omega) (by omega)
        omega
      · omega
/-- how many books fit from here on -/
def zNn (W : Nat → Nat → Nat) (n : Nat) : Nat → Nat → Nat → Int
  | 0, _, w => if w < n then 1 else 0
  | r + 1, m, w => if w < n then zsm (fun d => if zbt1 m d = true then 0 else zNn W n r (m ||| 2 ^ d) (w + W (7 - r) d)) 8 else 0
theorem zNn_s (W : Nat → Nat → Nat) (n r m w : Nat) : zNn W n (r + 1) m w = if w < n then zsm (fun d => if zbt1 m d = true then 0 else zNn W n r (m ||| 2 ^ d) (w + W (7 - r) d)) 8 else 0 := rfl
theorem zNn_0 {W : Nat → Nat → Nat} {n m w : Nat} (h : ¬ w < n) : ∀ r : Nat, zNn W n r m w = 0
  | 0 => by unfold zNn; rw [if_neg h]
  | r + 1 => by unfold zNn; rw [if_neg h]
theorem zNn_V {W : Nat → Nat → Nat} {n m w : Nat} (hm : m < 255) (hw : w < n) : zVs (fun x w => zNn W n (8 - zpc x) x w) (W (zpc m)) n m w = zNn W n (8 - zpc m) m w := by
  have hp := (zpc_le m (by omega)).2.1 (by omega)
  obtain ⟨r, hr⟩ : ∃ r : Nat, 8 - zpc m = r + 1 := ⟨7 - zpc m, by omega⟩
  rw [hr, zNn_s, if_pos hw]
  unfold zVs
  refine zsm_c 8 (fun d hd => ?_)
  by_cases hb : zbt1 m d = true
  · rw [if_pos hb, if_pos hb]
  · rw [if_neg hb, if_neg hb, show 7 - r = zpc m by omega]
    have e := (zor_m m (by omega) d hd).2.2.2 (by simpa using hb)
    by_cases hx : w + W (zpc m) d < n
    · rw [if_pos hx]
      show zNn W n (8 - zpc (m ||| 2 ^ d)) (m ||| 2 ^ d) (w + W (zpc m) d) = _
      rw [e, show 8 - (zpc m + 1) = r by omega]
    · rw [if_neg hx, zNn_0 hx]
theorem zfal_N {W : Nat → Nat → Nat} {n : Nat} (hn : 1 ≤ n) (hn7 : n ≤ 7) : zsm (fun w => zfal W n 255 (1785 + w)) n = zNn W n 8 0 0 := by
  have h : ∀ m : Nat, m ≤ 255 → zGp (zfal W n m) (fun x w => zNn W n (8 - zpc x) x w) n m = zNn W n 8 0 0 := by
    intro m
    induction m with
    | zero => intro _; rw [show zfal W n 0 = zA0 from rfl, zGp_A0 hn hn7]; rfl
    | succ m ih => intro hm; rw [zfal_s, zfgs_eq hn7 (by omega) (fun w hw => zNn_V (by omega) hw)]; exact ih (by omega)
  rw [← h 255 (by omega), zGp_s (by omega)]
  have e0 : zGp (zfal W n 255) (fun x w => zNn W n (8 - zpc x) x w) n (255 + 1) = 0 := by
    unfold zGp
    rw [zsm_c (g := fun _ => 0) 256 (fun t ht => by rw [if_neg (by omega)]), zsm_z]
  rw [e0, Int.zero_add]
  refine zsm_c n (fun w hw => ?_)
  have : zNn W n (8 - zpc 255) 255 w = 1 := by
    rw [show 8 - zpc 255 = 0 by decide]
    unfold zNn
    rw [if_pos hw]
  show zfal W n 255 (1785 + w) = zfal W n 255 (7 * 255 + w) * zNn W n (8 - zpc 255) 255 w
  rw [this, Int.mul_one]
