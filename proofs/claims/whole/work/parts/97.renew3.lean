/-- the first digit that reaches the least -/
def zPk (f : Nat → Int) (m : Nat) : Nat → Nat := zfo (fun e acc => if zbt1 m e = true then acc else if f e < zMp f m e then e else acc) 0
theorem zPk_s (f : Nat → Int) (m k : Nat) : zPk f m (k + 1) = if zbt1 m k = true then zPk f m k else if f k < zMp f m k then k else zPk f m k := rfl
theorem zPk_g {f : Nat → Int} {m : Nat} : ∀ k : Nat, zMp f m k < 1000000 → zPk f m k < k ∧ zbt1 m (zPk f m k) = false ∧ f (zPk f m k) = zMp f m k ∧ ∀ e : Nat, e < zPk f m k → zbt1 m e = false → zMp f m k < f e
  | 0, h => absurd (show (1000000 : Int) < 1000000 from h) (by decide)
  | k + 1, h => by
    rw [zMp_s] at h
    rw [zPk_s, zMp_s]
    by_cases hb : zbt1 m k = true
    · rw [if_pos hb] at h
      rw [if_pos hb, if_pos hb]
      obtain ⟨a, b, c, g⟩ := zPk_g k h
      exact ⟨by omega, b, c, g⟩
    · rw [if_neg hb] at h
      rw [if_neg hb, if_neg hb]
      by_cases hl : f k < zMp f m k
      · rw [if_pos hl, if_pos hl]
        refine ⟨by omega, by simpa using hb, rfl, fun e he hbe => ?_⟩
        have := zMp_l (f := f) k e he hbe
        omega
      · rw [if_neg hl] at h
        rw [if_neg hl, if_neg hl]
        obtain ⟨a, b, c, g⟩ := zPk_g k h
        exact ⟨by omega, b, c, g⟩
theorem zPk_c {f f' : Nat → Int} {m : Nat} : ∀ k : Nat, (∀ e : Nat, e < k → f e = f' e) → zPk f m k = zPk f' m k
  | 0, _ => rfl
  | k + 1, h => by rw [zPk_s, zPk_s, zPk_c k (fun e he => h e (by omega)), zMp_c k (fun e he => h e (by omega)), h k (by omega)]
/-- what goes on from m at cue 7 - r -/
def zFf (K : Nat → Nat → Int) (r m : Nat) (e : Nat) : Int := zMn K r (m ||| 2 ^ e) + K (7 - r) e
theorem zMn_f (K : Nat → Nat → Int) (r m : Nat) : zMn K (r + 1) m = zMp (zFf K r m) m 8 := rfl
/-- the least new book behind m -/
def zGb (K : Nat → Nat → Int) : Nat → Nat → Nat → Nat
  | 0, _ => fun _ => 0
  | r + 1, m => fun k => if k = 7 - r then zPk (zFf K r m) m 8 else zGb K r (m ||| 2 ^ zPk (zFf K r m) m 8) k
theorem zGb_s (K : Nat → Nat → Int) (r m k : Nat) : zGb K (r + 1) m k = if k = 7 - r then zPk (zFf K r m) m 8 else zGb K r (m ||| 2 ^ zPk (zFf K r m) m 8) k := rfl
set_option maxRecDepth 100000 in
theorem zl_ldg {xs : Nat → Int} {L d b1 b2 : Nat} {H : zH} {Q : zQ} {B D : Nat → Int} {c x : Int} {r m : Nat} (hd : 1 ≤ d) (hL : zLay H) (hr : r < 8) (hm : m < 256) (hpc : zpc m = 7 - r) (hBc : ∀ j : Nat, j < 8 → znib c j = B j) (hD : x = D (7 - r)) (hA : ∀ y : Nat, y < 256 → zA H 75 y = zMn (zKc B D) (8 - zpc y) y) (hf : zMn (zKc B D) (r + 1) m < 1000000) (h : Q (zPk (zFf (zKc B D) r m) m 8 : Nat) H) : ∀ (kk : Nat) (e : Nat) (l6 : Option zV), 8 - e = kk → (e ≤ zPk (zFf (zKc B D) r m) m 8) → zEt xs L d b1 b2 false 96 3 [some (zr (some 70)), some (zi (7 - r : Nat)), some (zi m), some (zi x), some (zi c), some (zi e), l6] [] H Q := by
  intro kk
  induction kk using Nat.strongRecOn with
  | ind kk ih =>
    intro e l6 hkk he
    refine zgo_at [3, 53] 8 ?_
    try simp -implicitDefEqProofs only [zgn_0, zgn_s, zct_0, zct_s, Nat.reduceEqDiff, Nat.reduceBEq, Nat.reduceAdd, Nat.reduceSub, Nat.reduceMul, Int.reduceAdd, Int.reduceSub, Int.reduceMul, Int.reduceNeg, Int.reduceLT, Int.reduceLE, Int.reduceEq, Nat.zero_add, true_and, and_true, false_and, and_false, true_imp_iff, false_imp_iff, not_true_eq_false, not_false_eq_true, if_true, if_false, Bool.false_eq_true, ite_true, ite_false, reduceIte, eq_self, Int.toNat_natCast, zst_0, zst_1, zst_2, zst_3, zst_4, true_or, or_true, or_false, false_or, ze_96_0, zB_96_0, ze_96_3, zB_96_3, ze_96_53, zB_96_53, ze_96_59, zB_96_59, zbr_t, zbr_f, zrun_c, zmI_s, zmL_s, zmR_s, zgt_0, zgt_s, zln_0, zln_s, zs1_0, zs1_1i, zs1_1r, zs1_1n, zs1_1l, zs1_s, zs2_0, zs2_1i, zs2_1r, zs2_1n, zs2_1l, zs2_s, zcn_eq, zcn_ne, zcn_lt, zcn_ge, zcn_gt, zcn_le, zpu_0, zpu_1, zpu_2, zx_iconst, zx_lconst, zx_ldc, zx_ldc2, zx_null, zx_iload, zx_lload, zx_aload, zx_istore, zx_lstore, zx_astore, zx_iinc, zx_iadd, zx_isub, zx_imul, zx_idiv, zx_irem, zx_iand, zx_ior, zx_ixor, zx_ishl, zx_ishr, zx_iushr, zx_i2b, zx_i2l, zx_l2i, zx_ladd, zx_lmul, zx_ldiv, zx_lrem, zx_land, zx_lor, zx_lshl, zx_lshr, zx_lcmp, zx_dupi, zx_dupr, zx_dup2l, zx_dup2i, zx_pop, zx_ifc, zx_icmp, zx_ifnullN, zx_ifnullS, zx_ifnonN, zx_ifnonS, zx_goto, zx_gotow, zx_switch, zx_iaload, zx_baload, zx_laload, zx_aaload, zx_iastore, zx_bastore, zx_lastore, zx_aastore, zx_alen, zx_newarray, zx_anewarray, zx_new, zx_getI, zx_getL, zx_getR, zx_putI, zx_putZ, zx_putL, zx_putR, zx_callS, zx_callV, zx_objinit, zx_cpyi, zx_cpyl, zx_mmax, zx_mmin, zx_mminl, zx_ireturn, zx_areturn, zx_lreturn, zx_return, zcs_0, zcs_1, zcv_1, zcs_2, zcv_2, zcs_3, zcv_3, zcs_4, zcv_4, zcs_5, zcv_5, zcs_6, zcv_6, zcs_7, zcv_7, Int.reduceToNat, Nat.reduceDiv, Nat.reduceMod, zJ, zC, zK_wA, zN_wA, zR_wA, zS_wA, zA_wA, zK_wR, zN_wR, zR_wR, zS_wR, zA_wR, zK_cp, zN_cp, zR_cp, zS_cp, zA_cp, zK_mp, zN_mp, zR_mp, zS_mp, zA_mp, zfa, zfmm, zfa_1, zfb_1, zfa_2, zfb_2, zfa_3, zfb_3, zfa_4, zfb_4, zfa_5, zfb_5, zfa_6, zfb_6, zfa_7, zfb_7, zfa_8, zfb_8, zfa_9, zfb_9, zfa_10, zfb_10, zfa_12, zfb_12, zfa_20, zfb_20, zfa_21, zfb_21, zfa_30, zfb_30, zfa_48, zfb_48, zfa_60, zfb_60, zfa_61, zfb_61, zfa_65, zfb_65, zfa_97, zfb_97, zfa_100, zfb_100, zfa_120, zfb_120, zfa_124, zfb_124, zfa_500, zfb_500, zfa_792, zfb_792, zfa_2989, zfb_2989, zfm_2, zfn_2, zfm_3, zfn_3, zfm_4, zfn_4, zfm_6, zfn_6, zfm_7, zfn_7, zfm_8, zfn_8, zfm_12, zfn_12, zfm_49, zfn_49, zfm_60, zfn_60, zfm_61, zfn_61, zfm_792, zfn_792, zfm_2989, zfn_2989, Int.zero_add, Int.add_zero, Int.zero_mul, Int.mul_zero, Int.one_mul, Int.mul_one, lk_70 hL, lr_70_6 hL, lk_75 hL, ln_75 hL]
    rw [zMn_f] at hf
    obtain ⟨g1, g2, g3, g4⟩ := zPk_g 8 hf
    have he8 : e < 8 := by omega
    have hz := zor_m m hm e he8
    have hKb := zKc_b B D
    have hMb := fun m' => zMn_b (K := zKc B D) (fun k e _ _ => (hKb k e).1) r m' (by omega)
    refine zbr_i (fun q0 => absurd q0 (by omega)) (fun q0 => ?_)
    rw [zor1 hm he8]
    simp only [Int.toNat_natCast]
    have next : ∀ l6 : Option zV, e ≠ zPk (zFf (zKc B D) r m) m 8 → zEt xs L d b1 b2 false 96 53 [some (zr (some 70)), some (zi (7 - r : Nat)), some (zi m), some (zi x), some (zi c), some (zi e), l6] [] H Q := by
      intro l6 hne
      refine zgo_at [3] 8 ?_
      try simp -implicitDefEqProofs only [zgn_0, zgn_s, zct_0, zct_s, Nat.reduceEqDiff, Nat.reduceBEq, Nat.reduceAdd, Nat.reduceSub, Nat.reduceMul, Int.reduceAdd, Int.reduceSub, Int.reduceMul, Int.reduceNeg, Int.reduceLT, Int.reduceLE, Int.reduceEq, Nat.zero_add, true_and, and_true, false_and, and_false, true_imp_iff, false_imp_iff, not_true_eq_false, not_false_eq_true, if_true, if_false, Bool.false_eq_true, ite_true, ite_false, reduceIte, eq_self, Int.toNat_natCast, zst_0, zst_1, zst_2, zst_3, zst_4, true_or, or_true, or_false, false_or, ze_96_0, zB_96_0, ze_96_3, zB_96_3, ze_96_53, zB_96_53, ze_96_59, zB_96_59, zbr_t, zbr_f, zrun_c, zmI_s, zmL_s, zmR_s, zgt_0, zgt_s, zln_0, zln_s, zs1_0, zs1_1i, zs1_1r, zs1_1n, zs1_1l, zs1_s, zs2_0, zs2_1i, zs2_1r, zs2_1n, zs2_1l, zs2_s, zcn_eq, zcn_ne, zcn_lt, zcn_ge, zcn_gt, zcn_le, zpu_0, zpu_1, zpu_2, zx_iconst, zx_lconst, zx_ldc, zx_ldc2, zx_null, zx_iload, zx_lload, zx_aload, zx_istore, zx_lstore, zx_astore, zx_iinc, zx_iadd, zx_isub, zx_imul, zx_idiv, zx_irem, zx_iand, zx_ior, zx_ixor, zx_ishl, zx_ishr, zx_iushr, zx_i2b, zx_i2l, zx_l2i, zx_ladd, zx_lmul, zx_ldiv, zx_lrem, zx_land, zx_lor, zx_lshl, zx_lshr, zx_lcmp, zx_dupi, zx_dupr, zx_dup2l, zx_dup2i, zx_pop, zx_ifc, zx_icmp, zx_ifnullN, zx_ifnullS, zx_ifnonN, zx_ifnonS, zx_goto, zx_gotow, zx_switch, zx_iaload, zx_baload, zx_laload, zx_aaload, zx_iastore, zx_bastore, zx_lastore, zx_aastore, zx_alen, zx_newarray, zx_anewarray, zx_new, zx_getI, zx_getL, zx_getR, zx_putI, zx_putZ, zx_putL, zx_putR, zx_callS, zx_callV, zx_objinit, zx_cpyi, zx_cpyl, zx_mmax, zx_mmin, zx_mminl, zx_ireturn, zx_areturn, zx_lreturn, zx_return, zcs_0, zcs_1, zcv_1, zcs_2, zcv_2, zcs_3, zcv_3, zcs_4, zcv_4, zcs_5, zcv_5, zcs_6, zcv_6, zcs_7, zcv_7, Int.reduceToNat, Nat.reduceDiv, Nat.reduceMod, zJ, zC, zK_wA, zN_wA, zR_wA, zS_wA, zA_wA, zK_wR, zN_wR, zR_wR, zS_wR, zA_wR, zK_cp, zN_cp, zR_cp, zS_cp, zA_cp, zK_mp, zN_mp, zR_mp, zS_mp, zA_mp, zfa, zfmm, zfa_1, zfb_1, zfa_2, zfb_2, zfa_3, zfb_3, zfa_4, zfb_4, zfa_5, zfb_5, zfa_6, zfb_6, zfa_7, zfb_7, zfa_8, zfb_8, zfa_9, zfb_9, zfa_10, zfb_10, zfa_12, zfb_12, zfa_20, zfb_20, zfa_21, zfb_21, zfa_30, zfb_30, zfa_48, zfb_48, zfa_60, zfb_60, zfa_61, zfb_61, zfa_65, zfb_65, zfa_97, zfb_97, zfa_100, zfb_100, zfa_120, zfb_120, zfa_124, zfb_124, zfa_500, zfb_500, zfa_792, zfb_792, zfa_2989, zfb_2989, zfm_2, zfn_2, zfm_3, zfn_3, zfm_4, zfn_4, zfm_6, zfn_6, zfm_7, zfn_7, zfm_8, zfn_8, zfm_12, zfn_12, zfm_49, zfn_49, zfm_60, zfn_60, zfm_61, zfn_61, zfm_792, zfn_792, zfm_2989, zfn_2989, Int.zero_add, Int.add_zero, Int.zero_mul, Int.mul_zero, Int.one_mul, Int.mul_one]
      repeat (with_reducible refine And.intro ?_ ?_; · first | omega | (simp only [z32, z64]; omega))
      exact ih _ (by omega) (e + 1) _ rfl (by omega)
    refine zbr_i (fun q1 => ?_) (fun q1 => ?_)
    · refine next _ (fun ee => ?_)
      rw [← ee, hz.2.2.1.mpr (by omega)] at g2
      exact absurd g2 (by decide)
    · have hbf : zbt1 m e = false := by
        cases hc : zbt1 m e with
        | false => rfl
        | true => exact absurd (by have := hz.2.2.1.mp hc; omega) q1
      repeat (with_reducible refine And.intro ?_ ?_; · first | omega | (simp only [z32, z64]; omega))
      refine zc_changeTo (B := B) (D := D) (by omega) he8 (hBc _ (by omega)) hD ?_
      try simp -implicitDefEqProofs only [zgn_0, zgn_s, zct_0, zct_s, Nat.reduceEqDiff, Nat.reduceBEq, Nat.reduceAdd, Nat.reduceSub, Nat.reduceMul, Int.reduceAdd, Int.reduceSub, Int.reduceMul, Int.reduceNeg, Int.reduceLT, Int.reduceLE, Int.reduceEq, Nat.zero_add, true_and, and_true, false_and, and_false, true_imp_iff, false_imp_iff, not_true_eq_false, not_false_eq_true, if_true, if_false, Bool.false_eq_true, ite_true, ite_false, reduceIte, eq_self, Int.toNat_natCast, zst_0, zst_1, zst_2, zst_3, zst_4, true_or, or_true, or_false, false_or, ze_96_0, zB_96_0, ze_96_3, zB_96_3, ze_96_53, zB_96_53, ze_96_59, zB_96_59, zbr_t, zbr_f, zrun_c, zmI_s, zmL_s, zmR_s, zgt_0, zgt_s, zln_0, zln_s, zs1_0, zs1_1i, zs1_1r, zs1_1n, zs1_1l, zs1_s, zs2_0, zs2_1i, zs2_1r, zs2_1n, zs2_1l, zs2_s, zcn_eq, zcn_ne, zcn_lt, zcn_ge, zcn_gt, zcn_le, zpu_0, zpu_1, zpu_2, zx_iconst, zx_lconst, zx_ldc, zx_ldc2, zx_null, zx_iload, zx_lload, zx_aload, zx_istore, zx_lstore, zx_astore, zx_iinc, zx_iadd, zx_isub, zx_imul, zx_idiv, zx_irem, zx_iand, zx_ior, zx_ixor, zx_ishl, zx_ishr, zx_iushr, zx_i2b, zx_i2l, zx_l2i, zx_ladd, zx_lmul, zx_ldiv, zx_lrem, zx_land, zx_lor, zx_lshl, zx_lshr, zx_lcmp, zx_dupi, zx_dupr, zx_dup2l, zx_dup2i, zx_pop, zx_ifc, zx_icmp, zx_ifnullN, zx_ifnullS, zx_ifnonN, zx_ifnonS, zx_goto, zx_gotow, zx_switch, zx_iaload, zx_baload, zx_laload, zx_aaload, zx_iastore, zx_bastore, zx_lastore, zx_aastore, zx_alen, zx_newarray, zx_anewarray, zx_new, zx_getI, zx_getL, zx_getR, zx_putI, zx_putZ, zx_putL, zx_putR, zx_callS, zx_callV, zx_objinit, zx_cpyi, zx_cpyl, zx_mmax, zx_mmin, zx_mminl, zx_ireturn, zx_areturn, zx_lreturn, zx_return, zcs_0, zcs_1, zcv_1, zcs_2, zcv_2, zcs_3, zcv_3, zcs_4, zcv_4, zcs_5, zcv_5, zcs_6, zcv_6, zcs_7, zcv_7, Int.reduceToNat, Nat.reduceDiv, Nat.reduceMod, zJ, zC, zK_wA, zN_wA, zR_wA, zS_wA, zA_wA, zK_wR, zN_wR, zR_wR, zS_wR, zA_wR, zK_cp, zN_cp, zR_cp, zS_cp, zA_cp, zK_mp, zN_mp, zR_mp, zS_mp, zA_mp, zfa, zfmm, zfa_1, zfb_1, zfa_2, zfb_2, zfa_3, zfb_3, zfa_4, zfb_4, zfa_5, zfb_5, zfa_6, zfb_6, zfa_7, zfb_7, zfa_8, zfb_8, zfa_9, zfb_9, zfa_10, zfb_10, zfa_12, zfb_12, zfa_20, zfb_20, zfa_21, zfb_21, zfa_30, zfb_30, zfa_48, zfb_48, zfa_60, zfb_60, zfa_61, zfb_61, zfa_65, zfb_65, zfa_97, zfb_97, zfa_100, zfb_100, zfa_120, zfb_120, zfa_124, zfb_124, zfa_500, zfb_500, zfa_792, zfb_792, zfa_2989, zfb_2989, zfm_2, zfn_2, zfm_3, zfn_3, zfm_4, zfn_4, zfm_6, zfn_6, zfm_7, zfn_7, zfm_8, zfn_8, zfm_12, zfn_12, zfm_49, zfn_49, zfm_60, zfn_60, zfm_61, zfn_61, zfm_792, zfn_792, zfm_2989, zfn_2989, Int.zero_add, Int.add_zero, Int.zero_mul, Int.mul_zero, Int.one_mul, Int.mul_one, lk_70 hL, lr_70_6 hL, lk_75 hL, ln_75 hL]
      have a1 := hA m hm
      have a2 := hA (m ||| 2 ^ e) hz.1
      rw [hpc, show 8 - (7 - r) = r + 1 by omega, zMn_f] at a1
      rw [hz.2.2.2 hbf, hpc, show 8 - (7 - r + 1) = r by omega] at a2
      rw [a1, a2]
      have hMk := hMb (m ||| 2 ^ e)
      have hwk := hKb (7 - r) e
      have ef : zFf (zKc B D) r m e = zMn (zKc B D) r (m ||| 2 ^ e) + zKc B D (7 - r) e := rfl
      repeat (with_reducible refine And.intro ?_ ?_; · first | omega | (simp only [z32, z64]; omega))
      rw [← ef]
      refine zbr_i (fun q2 => ?_) (fun q2 => ?_)
      · refine next _ (fun ee => q2 ?_)
        rw [ee]; exact g3
      · have ee : e = zPk (zFf (zKc B D) r m) m 8 := by
          rcases Nat.lt_or_ge e (zPk (zFf (zKc B D) r m) m 8) with g | g
          · have := g4 e g hbf; omega
          · omega
        rw [← ee] at h
        exact h
set_option maxRecDepth 100000 in
theorem zc_leastDigit {xs : Nat → Int} {L d b1 b2 : Nat} {H : zH} {Q : zQ} {B D : Nat → Int} {c x : Int} {r m : Nat} (hd : 1 ≤ d) (hL : zLay H) (hr : r < 8) (hm : m < 256) (hpc : zpc m = 7 - r) (hBc : ∀ j : Nat, j < 8 → znib c j = B j) (hD : x = D (7 - r)) (hA : ∀ y : Nat, y < 256 → zA H 75 y = zMn (zKc B D) (8 - zpc y) y) (hf : zMn (zKc B D) (r + 1) m < 1000000) (h : Q (zPk (zFf (zKc B D) r m) m 8 : Nat) H) : zEm xs L d b1 b2 96 [zr (some 70), zi (7 - r : Nat), zi m, zi x, zi c] H Q := by
  refine zem_96 (zgo_at [3] 8 ?_)
  try simp -implicitDefEqProofs only [zgn_0, zgn_s, zct_0, zct_s, Nat.reduceEqDiff, Nat.reduceBEq, Nat.reduceAdd, Nat.reduceSub, Nat.reduceMul, Int.reduceAdd, Int.reduceSub, Int.reduceMul, Int.reduceNeg, Int.reduceLT, Int.reduceLE, Int.reduceEq, Nat.zero_add, true_and, and_true, false_and, and_false, true_imp_iff, false_imp_iff, not_true_eq_false, not_false_eq_true, if_true, if_false, Bool.false_eq_true, ite_true, ite_false, reduceIte, eq_self, Int.toNat_natCast, zst_0, zst_1, zst_2, zst_3, zst_4, true_or, or_true, or_false, false_or, ze_96_0, zB_96_0, ze_96_3, zB_96_3, ze_96_53, zB_96_53, ze_96_59, zB_96_59, zbr_t, zbr_f, zrun_c, zmI_s, zmL_s, zmR_s, zgt_0, zgt_s, zln_0, zln_s, zs1_0, zs1_1i, zs1_1r, zs1_1n, zs1_1l, zs1_s, zs2_0, zs2_1i, zs2_1r, zs2_1n, zs2_1l, zs2_s, zcn_eq, zcn_ne, zcn_lt, zcn_ge, zcn_gt, zcn_le, zpu_0, zpu_1, zpu_2, zx_iconst, zx_lconst, zx_ldc, zx_ldc2, zx_null, zx_iload, zx_lload, zx_aload, zx_istore, zx_lstore, zx_astore, zx_iinc, zx_iadd, zx_isub, zx_imul, zx_idiv, zx_irem, zx_iand, zx_ior, zx_ixor, zx_ishl, zx_ishr, zx_iushr, zx_i2b, zx_i2l, zx_l2i, zx_ladd, zx_lmul, zx_ldiv, zx_lrem, zx_land, zx_lor, zx_lshl, zx_lshr, zx_lcmp, zx_dupi, zx_dupr, zx_dup2l, zx_dup2i, zx_pop, zx_ifc, zx_icmp, zx_ifnullN, zx_ifnullS, zx_ifnonN, zx_ifnonS, zx_goto, zx_gotow, zx_switch, zx_iaload, zx_baload, zx_laload, zx_aaload, zx_iastore, zx_bastore, zx_lastore, zx_aastore, zx_alen, zx_newarray, zx_anewarray, zx_new, zx_getI, zx_getL, zx_getR, zx_putI, zx_putZ, zx_putL, zx_putR, zx_callS, zx_callV, zx_objinit, zx_cpyi, zx_cpyl, zx_mmax, zx_mmin, zx_mminl, zx_ireturn, zx_areturn, zx_lreturn, zx_return, zcs_0, zcs_1, zcv_1, zcs_2, zcv_2, zcs_3, zcv_3, zcs_4, zcv_4, zcs_5, zcv_5, zcs_6, zcv_6, zcs_7, zcv_7, Int.reduceToNat, Nat.reduceDiv, Nat.reduceMod, zJ, zC, zK_wA, zN_wA, zR_wA, zS_wA, zA_wA, zK_wR, zN_wR, zR_wR, zS_wR, zA_wR, zK_cp, zN_cp, zR_cp, zS_cp, zA_cp, zK_mp, zN_mp, zR_mp, zS_mp, zA_mp, zfa, zfmm, zfa_1, zfb_1, zfa_2, zfb_2, zfa_3, zfb_3, zfa_4, zfb_4, zfa_5, zfb_5, zfa_6, zfb_6, zfa_7, zfb_7, zfa_8, zfb_8, zfa_9, zfb_9, zfa_10, zfb_10, zfa_12, zfb_12, zfa_20, zfb_20, zfa_21, zfb_21, zfa_30, zfb_30, zfa_48, zfb_48, zfa_60, zfb_60, zfa_61, zfb_61, zfa_65, zfb_65, zfa_97, zfb_97, zfa_100, zfb_100, zfa_120, zfb_120, zfa_124, zfb_124, zfa_500, zfb_500, zfa_792, zfb_792, zfa_2989, zfb_2989, zfm_2, zfn_2, zfm_3, zfn_3, zfm_4, zfn_4, zfm_6, zfn_6, zfm_7, zfn_7, zfm_8, zfn_8, zfm_12, zfn_12, zfm_49, zfn_49, zfm_60, zfn_60, zfm_61, zfn_61, zfm_792, zfn_792, zfm_2989, zfn_2989, Int.zero_add, Int.add_zero, Int.zero_mul, Int.mul_zero, Int.one_mul, Int.mul_one]
  exact zl_ldg hd hL hr hm hpc hBc hD hA hf h _ 0 _ rfl (by omega)
