theorem zod_b {lo mi : Nat → Int} {c a : Nat} (hc : c < 8) (ha : a < 8) (hlo : 0 ≤ lo c ∧ lo c ≤ 30) (hmi : ∀ j : Nat, j < 64 → 0 ≤ mi j ∧ mi j ≤ 5) : 0 ≤ zod lo mi c a ∧ lo c + zod lo mi c a ≤ 100 := by
  unfold zod
  have h1 := zsm_b (f := fun e => mi (8 * c + e)) (B := 5) 8 (fun t ht => hmi _ (by omega))
  have h2 := hmi (8 * c + a) (by omega)
  split <;> omega
theorem z100 {i : Nat} (h : i ≤ 6) : (100 : Int) ^ i ≤ 1000000000000 ∧ (0 : Int) ≤ 100 ^ i := by
  rcases (show i = 0 ∨ i = 1 ∨ i = 2 ∨ i = 3 ∨ i = 4 ∨ i = 5 ∨ i = 6 by omega) with rfl | rfl | rfl | rfl | rfl | rfl | rfl <;> decide
set_option maxRecDepth 100000 in
theorem zl_chI {xs : Nat → Int} {L d b1 b2 : Nat} {H0 : zH} {Q : zQ} {t w n i c : Nat} (hd : 1 ≤ d) (hL0 : zLay H0) (ht : t < 40) (hw6 : w ≤ 6) (hnw : n ≤ w) (hrow : ∀ i : Nat, i < w → 0 ≤ zA H0 24 (6 * t + i) ∧ zA H0 24 (6 * t + i) ≤ 7) (hhd : ∀ j : Nat, j < n → 0 ≤ zA H0 10 j ∧ zA H0 10 j ≤ 7) (hlo : ∀ c : Nat, c < 8 → 0 ≤ zA H0 26 c ∧ zA H0 26 c ≤ 30) (hmi : ∀ j : Nat, j < 64 → 0 ≤ zA H0 27 j ∧ zA H0 27 j ≤ 5) (hiw : i < w) (hc : c = (zA H0 24 (6 * t + i)).toNat) (hx : ∀ H : zH, zmd (zin [28] []) H0 H → (∀ j : Nat, j ≤ n → zA H 28 j = (zCh (fun i => (zA H0 24 (6 * t + i)).toNat) (fun j => (zA H0 10 j).toNat) (zA H0 26) (zod (zA H0 26) (zA H0 27))) (i + 1) j) → ∀ l7 l8 l9 : Option zV, zEt xs L d b1 b2 false 159 146 [some (zr (some 21)), some (zi t), some (zr (some 6)), some (zi w), some (zi n), some (zi i), some (zi c), l7, l8, l9] [] H Q) : ∀ (kk : Nat) (jj : Nat) (v : Int) (H : zH) (l8 : Option zV) (l9 : Option zV), jj = kk → (v = (jj : Int) - 1) → (jj ≤ n + 1) → (zmd (zin [28] []) H0 H) → (∀ j : Nat, j ≤ n → zA H 28 j = if j < jj then (zCh (fun i => (zA H0 24 (6 * t + i)).toNat) (fun j => (zA H0 10 j).toNat) (zA H0 26) (zod (zA H0 26) (zA H0 27))) i j else (zCh (fun i => (zA H0 24 (6 * t + i)).toNat) (fun j => (zA H0 10 j).toNat) (zA H0 26) (zod (zA H0 26) (zA H0 27))) (i + 1) j) → zEt xs L d b1 b2 false 159 72 [some (zr (some 21)), some (zi t), some (zr (some 6)), some (zi w), some (zi n), some (zi i), some (zi c), some (zi v), l8, l9] [] H Q := by
  intro kk
  induction kk using Nat.strongRecOn with
  | ind kk ih =>
    intro jj v H l8 l9 hkk hv hj hm hA
    refine zgo_at [72, 146] 8 ?_
    try simp only [zgn_0, zgn_s, zct_0, zct_s, Nat.reduceEqDiff, Nat.reduceBEq, Nat.reduceAdd, Nat.reduceSub, Nat.reduceMul, Int.reduceAdd, Int.reduceSub, Int.reduceMul, Int.reduceNeg, Int.reduceLT, Int.reduceLE, Int.reduceEq, Nat.zero_add, true_and, and_true, false_and, and_false, true_imp_iff, false_imp_iff, not_true_eq_false, not_false_eq_true, if_true, if_false, Bool.false_eq_true, ite_true, ite_false, reduceIte, eq_self, Int.toNat_natCast, zst_0, zst_1, zst_2, zst_3, zst_4, true_or, or_true, or_false, false_or, ze_159_0, zB_159_0, ze_159_28, zB_159_28, ze_159_30, zB_159_30, ze_159_48, zB_159_48, ze_159_72, zB_159_72, ze_159_131, zB_159_131, ze_159_146, zB_159_146, ze_159_152, zB_159_152, zbr_t, zbr_f, zrun_c, zmI_s, zmL_s, zmR_s, zgt_0, zgt_s, zln_0, zln_s, zs1_0, zs1_1i, zs1_1r, zs1_1n, zs1_1l, zs1_s, zs2_0, zs2_1i, zs2_1r, zs2_1n, zs2_1l, zs2_s, zcn_eq, zcn_ne, zcn_lt, zcn_ge, zcn_gt, zcn_le, zpu_0, zpu_1, zpu_2, zx_iconst, zx_lconst, zx_ldc, zx_ldc2, zx_null, zx_iload, zx_lload, zx_aload, zx_istore, zx_lstore, zx_astore, zx_iinc, zx_iadd, zx_isub, zx_imul, zx_idiv, zx_irem, zx_iand, zx_ior, zx_ixor, zx_ishl, zx_ishr, zx_iushr, zx_i2b, zx_i2l, zx_l2i, zx_ladd, zx_lmul, zx_ldiv, zx_lrem, zx_land, zx_lor, zx_lshl, zx_lshr, zx_lcmp, zx_dupi, zx_dupr, zx_dup2l, zx_dup2i, zx_pop, zx_ifc, zx_icmp, zx_ifnullN, zx_ifnullS, zx_ifnonN, zx_ifnonS, zx_goto, zx_gotow, zx_switch, zx_iaload, zx_baload, zx_laload, zx_aaload, zx_iastore, zx_bastore, zx_lastore, zx_aastore, zx_alen, zx_newarray, zx_anewarray, zx_new, zx_getI, zx_getL, zx_getR, zx_putI, zx_putZ, zx_putL, zx_putR, zx_callS, zx_callV, zx_objinit, zx_cpyi, zx_cpyl, zx_mmax, zx_mmin, zx_mminl, zx_ireturn, zx_areturn, zx_lreturn, zx_return, zcs_0, zcs_1, zcv_1, zcs_2, zcv_2, zcs_3, zcv_3, zcs_4, zcv_4, zcs_5, zcv_5, zcs_6, zcv_6, zcs_7, zcv_7, Int.reduceToNat, Nat.reduceDiv, Nat.reduceMod, zJ, zC, zK_wA, zN_wA, zR_wA, zS_wA, zA_wA, zK_wR, zN_wR, zR_wR, zS_wR, zA_wR, zK_cp, zN_cp, zR_cp, zS_cp, zA_cp, zK_mp, zN_mp, zR_mp, zS_mp, zA_mp, zfa, zfmm, zfa_1, zfb_1, zfa_2, zfb_2, zfa_3, zfb_3, zfa_4, zfb_4, zfa_5, zfb_5, zfa_6, zfb_6, zfa_7, zfb_7, zfa_8, zfb_8, zfa_9, zfb_9, zfa_10, zfb_10, zfa_12, zfb_12, zfa_20, zfb_20, zfa_21, zfb_21, zfa_30, zfb_30, zfa_48, zfb_48, zfa_60, zfb_60, zfa_61, zfb_61, zfa_65, zfb_65, zfa_97, zfb_97, zfa_100, zfb_100, zfa_120, zfb_120, zfa_124, zfb_124, zfa_500, zfb_500, zfa_792, zfb_792, zfa_2989, zfb_2989, zfm_2, zfn_2, zfm_3, zfn_3, zfm_4, zfn_4, zfm_6, zfn_6, zfm_7, zfn_7, zfm_8, zfn_8, zfm_12, zfn_12, zfm_49, zfn_49, zfm_60, zfn_60, zfm_61, zfn_61, zfm_792, zfn_792, zfm_2989, zfn_2989, Int.zero_add, Int.add_zero, Int.zero_mul, Int.mul_zero, Int.one_mul, Int.mul_one, lk_21 (zmd_lay hm hL0), lr_21_7 (zmd_lay hm hL0), lk_28 (zmd_lay hm hL0), ln_28 (zmd_lay hm hL0), lr_21_5 (zmd_lay hm hL0), lk_26 (zmd_lay hm hL0), ln_26 (zmd_lay hm hL0), lk_6 (zmd_lay hm hL0), lr_6_4 (zmd_lay hm hL0), lk_10 (zmd_lay hm hL0), ln_10 (zmd_lay hm hL0), hm.2.2.2 26 _ rfl, hm.2.2.2 10 _ rfl]
    have hL := zmd_lay hm hL0
    have hcz : c = (fun i => (zA H0 24 (6 * t + i)).toNat) i := hc
    have hc8 : c < 8 := by have := hrow i hiw; omega
    refine zbr_i (fun q => ?_) (fun q => ?_)
    · refine hx H hm (fun j hj => ?_) _ _ _
      rw [hA j hj, if_neg (by omega)]
    · obtain ⟨j, rfl⟩ : ∃ j : Nat, v = j := ⟨v.toNat, by omega⟩
      have ej : jj = j + 1 := by omega
      subst ej
      rw [Int.toNat_natCast]
      have hB := fun i j h1 h2 => zCh_b (row := fun i => (zA H0 24 (6 * t + i)).toNat) (hd := fun j => (zA H0 10 j).toNat) (lo := zA H0 26) (od := zod (zA H0 26) (zA H0 27)) (w := w) (n := n) (fun i hi => (hlo _ (by have := hrow i hi; omega)).1) (fun i j hi hj => zod_b (by have := hrow i hi; omega) (by have := hhd j hj; omega) (hlo _ (by have := hrow i hi; omega)) hmi) (fun i hi => by have := hlo (zA H0 24 (6 * t + i)).toNat (by have := hrow i hi; omega); omega) i j h1 h2
      have b1 := hB i j (by omega) (by omega)
      have p1 := z100 (i := i) (by omega)
      have hl := hlo c hc8
      have a1 := hA j (by omega)
      rw [if_pos (by omega)] at a1
      have ih2 := fun (x : Int) (hx : x = (zCh (fun i => (zA H0 24 (6 * t + i)).toNat) (fun j => (zA H0 10 j).toNat) (zA H0 26) (zod (zA H0 26) (zA H0 27))) (i + 1) j) l8 l9 => ih j (by omega) j ((j : Int) + -1) (zwA H 28 j x) l8 l9 rfl (by omega) (by omega) (zmd_w hm rfl) (fun k hk => by
        rw [zA_wA]
        by_cases e : k = j
        · rw [if_pos ⟨rfl, e⟩, if_neg (by omega), hx, e]
        · rw [if_neg (fun q => e q.2), hA k hk]
          by_cases e2 : k < j
          · rw [if_pos e2, if_pos (by omega)]
          · rw [if_neg e2, if_neg (by omega)])
      have e0 : (zCh (fun i => (zA H0 24 (6 * t + i)).toNat) (fun j => (zA H0 10 j).toNat) (zA H0 26) (zod (zA H0 26) (zA H0 27))) (i + 1) j = (zCh (fun i => (zA H0 24 (6 * t + i)).toNat) (fun j => (zA H0 10 j).toNat) (zA H0 26) (zod (zA H0 26) (zA H0 27))) i j * zA H0 26 c + (if j = 0 then 0 else (zCh (fun i => (zA H0 24 (6 * t + i)).toNat) (fun j => (zA H0 10 j).toNat) (zA H0 26) (zod (zA H0 26) (zA H0 27))) i (j - 1) * zod (zA H0 26) (zA H0 27) c (zA H0 10 (j - 1)).toNat) := by rw [zCh_s, ← hc]
      rw [a1]
      have pm0 := zmx2 (b := 0) (o := 0) b1 ⟨by omega, by omega⟩ hl.1 (by omega) (by omega)
      repeat (with_reducible refine And.intro ?_ ?_; · first | omega | (simp only [z32, z64]; omega))
      refine zbr_i (fun q1 => ?_) (fun q1 => ?_)
      · repeat (with_reducible refine And.intro ?_ ?_; · first | omega | (simp only [z32, z64]; omega))
        rw [if_pos (by omega), Int.add_zero] at e0
        exact ih2 _ e0.symm _ _
      · have b2 := hB i (j - 1) (by omega) (by omega)
        have a2 := hA (j - 1) (by omega)
        rw [if_pos (by omega)] at a2
        have h3 := hhd (j - 1) (by omega)
        rw [show ((j : Int) - 1).toNat = j - 1 by omega, a2, show zA H0 10 (j - 1) = (((zA H0 10 (j - 1)).toNat : Nat) : Int) by omega]
        have ho := zod_b (mi := zA H0 27) (c := c) (a := (zA H0 10 (j - 1)).toNat) hc8 (by omega) hl hmi
        have pm := zmx2 b1 b2 hl.1 ho.1 ho.2
        repeat (with_reducible refine And.intro ?_ ?_; · first | omega | (simp only [z32, z64]; omega))
        refine zc_oddsOf hL hc8 (by omega) (by rw [hm.2.2.2 26 _ rfl]; exact hl) (fun e he => by rw [hm.2.2.2 27 _ rfl]; exact hmi _ (by omega)) ?_
        have eo : zod (zA H 26) (zA H 27) c (zA H0 10 (j - 1)).toNat = zod (zA H0 26) (zA H0 27) c (zA H0 10 (j - 1)).toNat := by
          have g1 : zA H 26 = zA H0 26 := funext (fun k => hm.2.2.2 26 k rfl)
          have g2 : zA H 27 = zA H0 27 := funext (fun k => hm.2.2.2 27 k rfl)
          rw [g1, g2]
        rw [eo]
        try simp only [zgn_0, zgn_s, zct_0, zct_s, Nat.reduceEqDiff, Nat.reduceBEq, Nat.reduceAdd, Nat.reduceSub, Nat.reduceMul, Int.reduceAdd, Int.reduceSub, Int.reduceMul, Int.reduceNeg, Int.reduceLT, Int.reduceLE, Int.reduceEq, Nat.zero_add, true_and, and_true, false_and, and_false, true_imp_iff, false_imp_iff, not_true_eq_false, not_false_eq_true, if_true, if_false, Bool.false_eq_true, ite_true, ite_false, reduceIte, eq_self, Int.toNat_natCast, zst_0, zst_1, zst_2, zst_3, zst_4, true_or, or_true, or_false, false_or, ze_159_0, zB_159_0, ze_159_28, zB_159_28, ze_159_30, zB_159_30, ze_159_48, zB_159_48, ze_159_72, zB_159_72, ze_159_131, zB_159_131, ze_159_146, zB_159_146, ze_159_152, zB_159_152, zbr_t, zbr_f, zrun_c, zmI_s, zmL_s, zmR_s, zgt_0, zgt_s, zln_0, zln_s, zs1_0, zs1_1i, zs1_1r, zs1_1n, zs1_1l, zs1_s, zs2_0, zs2_1i, zs2_1r, zs2_1n, zs2_1l, zs2_s, zcn_eq, zcn_ne, zcn_lt, zcn_ge, zcn_gt, zcn_le, zpu_0, zpu_1, zpu_2, zx_iconst, zx_lconst, zx_ldc, zx_ldc2, zx_null, zx_iload, zx_lload, zx_aload, zx_istore, zx_lstore, zx_astore, zx_iinc, zx_iadd, zx_isub, zx_imul, zx_idiv, zx_irem, zx_iand, zx_ior, zx_ixor, zx_ishl, zx_ishr, zx_iushr, zx_i2b, zx_i2l, zx_l2i, zx_ladd, zx_lmul, zx_ldiv, zx_lrem, zx_land, zx_lor, zx_lshl, zx_lshr, zx_lcmp, zx_dupi, zx_dupr, zx_dup2l, zx_dup2i, zx_pop, zx_ifc, zx_icmp, zx_ifnullN, zx_ifnullS, zx_ifnonN, zx_ifnonS, zx_goto, zx_gotow, zx_switch, zx_iaload, zx_baload, zx_laload, zx_aaload, zx_iastore, zx_bastore, zx_lastore, zx_aastore, zx_alen, zx_newarray, zx_anewarray, zx_new, zx_getI, zx_getL, zx_getR, zx_putI, zx_putZ, zx_putL, zx_putR, zx_callS, zx_callV, zx_objinit, zx_cpyi, zx_cpyl, zx_mmax, zx_mmin, zx_mminl, zx_ireturn, zx_areturn, zx_lreturn, zx_return, zcs_0, zcs_1, zcv_1, zcs_2, zcv_2, zcs_3, zcv_3, zcs_4, zcv_4, zcs_5, zcv_5, zcs_6, zcv_6, zcs_7, zcv_7, Int.reduceToNat, Nat.reduceDiv, Nat.reduceMod, zJ, zC, zK_wA, zN_wA, zR_wA, zS_wA, zA_wA, zK_wR, zN_wR, zR_wR, zS_wR, zA_wR, zK_cp, zN_cp, zR_cp, zS_cp, zA_cp, zK_mp, zN_mp, zR_mp, zS_mp, zA_mp, zfa, zfmm, zfa_1, zfb_1, zfa_2, zfb_2, zfa_3, zfb_3, zfa_4, zfb_4, zfa_5, zfb_5, zfa_6, zfb_6, zfa_7, zfb_7, zfa_8, zfb_8, zfa_9, zfb_9, zfa_10, zfb_10, zfa_12, zfb_12, zfa_20, zfb_20, zfa_21, zfb_21, zfa_30, zfb_30, zfa_48, zfb_48, zfa_60, zfb_60, zfa_61, zfb_61, zfa_65, zfb_65, zfa_97, zfb_97, zfa_100, zfb_100, zfa_120, zfb_120, zfa_124, zfb_124, zfa_500, zfb_500, zfa_792, zfb_792, zfa_2989, zfb_2989, zfm_2, zfn_2, zfm_3, zfn_3, zfm_4, zfn_4, zfm_6, zfn_6, zfm_7, zfn_7, zfm_8, zfn_8, zfm_12, zfn_12, zfm_49, zfn_49, zfm_60, zfn_60, zfm_61, zfn_61, zfm_792, zfn_792, zfm_2989, zfn_2989, Int.zero_add, Int.add_zero, Int.zero_mul, Int.mul_zero, Int.one_mul, Int.mul_one, lk_21 (zmd_lay hm hL0), lr_21_7 (zmd_lay hm hL0), lk_28 (zmd_lay hm hL0), ln_28 (zmd_lay hm hL0), lr_21_5 (zmd_lay hm hL0), lk_26 (zmd_lay hm hL0), ln_26 (zmd_lay hm hL0), lk_6 (zmd_lay hm hL0), lr_6_4 (zmd_lay hm hL0), lk_10 (zmd_lay hm hL0), ln_10 (zmd_lay hm hL0), hm.2.2.2 26 _ rfl, hm.2.2.2 10 _ rfl]
        repeat (with_reducible refine And.intro ?_ ?_; · first | omega | (simp only [z32, z64]; omega))
        rw [if_neg (by omega)] at e0
        exact ih2 _ e0.symm _ _
set_option maxRecDepth 100000 in
theorem zl_mchI {xs : Nat → Int} {L d b1 b2 : Nat} {H0 : zH} {Q : zQ} {t w n i c : Nat} (hd : 1 ≤ d) (hL0 : zLay H0) (ht : t < 40) (hw6 : w ≤ 6) (hnw : n ≤ w) (hrow : ∀ i : Nat, i < w → 0 ≤ zA H0 116 (6 * t + i) ∧ zA H0 116 (6 * t + i) ≤ 7) (hhd : ∀ j : Nat, j < n → 0 ≤ zA H0 113 j ∧ zA H0 113 j ≤ 7) (hlo : ∀ c : Nat, c < 8 → 0 ≤ zA H0 139 c ∧ zA H0 139 c ≤ 30) (hmi : ∀ j : Nat, j < 64 → 0 ≤ zA H0 140 j ∧ zA H0 140 j ≤ 5) (hiw : i < w) (hc : c = (zA H0 116 (6 * t + i)).toNat) (hx : ∀ H : zH, zmd (zin [141] []) H0 H → (∀ j : Nat, j ≤ n → zA H 141 j = (zCh (fun i => (zA H0 116 (6 * t + i)).toNat) (fun j => (zA H0 113 j).toNat) (zA H0 139) (zod (zA H0 139) (zA H0 140))) (i + 1) j) → ∀ l7 : Option zV, zEt xs L d b1 b2 false 263 153 [some (zr (some 106)), some (zi t), some (zi i), some (zi c), l7] [] H Q) : ∀ (kk : Nat) (jj : Nat) (v : Int) (H : zH), jj = kk → (v = (jj : Int) - 1) → (jj ≤ n + 1) → (zmd (zin [141] []) H0 H) → (∀ j : Nat, j ≤ n → zA H 141 j = if j < jj then (zCh (fun i => (zA H0 116 (6 * t + i)).toNat) (fun j => (zA H0 113 j).toNat) (zA H0 139) (zod (zA H0 139) (zA H0 140))) i j else (zCh (fun i => (zA H0 116 (6 * t + i)).toNat) (fun j => (zA H0 113 j).toNat) (zA H0 139) (zod (zA H0 139) (zA H0 140))) (i + 1) j) → zEt xs L d b1 b2 false 263 85 [some (zr (some 106)), some (zi t), some (zi i), some (zi c), some (zi v)] [] H Q := by
  intro kk
  induction kk using Nat.strongRecOn with
  | ind kk ih =>
    intro jj v H hkk hv hj hm hA
    refine zgo_at [85, 153] 8 ?_
    try simp only [zgn_0, zgn_s, zct_0, zct_s, Nat.reduceEqDiff, Nat.reduceBEq, Nat.reduceAdd, Nat.reduceSub, Nat.reduceMul, Int.reduceAdd, Int.reduceSub, Int.reduceMul, Int.reduceNeg, Int.reduceLT, Int.reduceLE, Int.reduceEq, Nat.zero_add, true_and, and_true, false_and, and_false, true_imp_iff, false_imp_iff, not_true_eq_false, not_false_eq_true, if_true, if_false, Bool.false_eq_true, ite_true, ite_false, reduceIte, eq_self, Int.toNat_natCast, zst_0, zst_1, zst_2, zst_3, zst_4, true_or, or_true, or_false, false_or, ze_263_0, zB_263_0, ze_263_22, zB_263_22, ze_263_24, zB_263_24, ze_263_26, zB_263_26, ze_263_47, zB_263_47, ze_263_48, zB_263_48, ze_263_55, zB_263_55, ze_263_57, zB_263_57, ze_263_85, zB_263_85, ze_263_120, zB_263_120, ze_263_145, zB_263_145, ze_263_153, zB_263_153, ze_263_159, zB_263_159, zbr_t, zbr_f, zrun_c, zmI_s, zmL_s, zmR_s, zgt_0, zgt_s, zln_0, zln_s, zs1_0, zs1_1i, zs1_1r, zs1_1n, zs1_1l, zs1_s, zs2_0, zs2_1i, zs2_1r, zs2_1n, zs2_1l, zs2_s, zcn_eq, zcn_ne, zcn_lt, zcn_ge, zcn_gt, zcn_le, zpu_0, zpu_1, zpu_2, zx_iconst, zx_lconst, zx_ldc, zx_ldc2, zx_null, zx_iload, zx_lload, zx_aload, zx_istore, zx_lstore, zx_astore, zx_iinc, zx_iadd, zx_isub, zx_imul, zx_idiv, zx_irem, zx_iand, zx_ior, zx_ixor, zx_ishl, zx_ishr, zx_iushr, zx_i2b, zx_i2l, zx_l2i, zx_ladd, zx_lmul, zx_ldiv, zx_lrem, zx_land, zx_lor, zx_lshl, zx_lshr, zx_lcmp, zx_dupi, zx_dupr, zx_dup2l, zx_dup2i, zx_pop, zx_ifc, zx_icmp, zx_ifnullN, zx_ifnullS, zx_ifnonN, zx_ifnonS, zx_goto, zx_gotow, zx_switch, zx_iaload, zx_baload, zx_laload, zx_aaload, zx_iastore, zx_bastore, zx_lastore, zx_aastore, zx_alen, zx_newarray, zx_anewarray, zx_new, zx_getI, zx_getL, zx_getR, zx_putI, zx_putZ, zx_putL, zx_putR, zx_callS, zx_callV, zx_objinit, zx_cpyi, zx_cpyl, zx_mmax, zx_mmin, zx_mminl, zx_ireturn, zx_areturn, zx_lreturn, zx_return, zcs_0, zcs_1, zcv_1, zcs_2, zcv_2, zcs_3, zcv_3, zcs_4, zcv_4, zcs_5, zcv_5, zcs_6, zcv_6, zcs_7, zcv_7, Int.reduceToNat, Nat.reduceDiv, Nat.reduceMod, zJ, zC, zK_wA, zN_wA, zR_wA, zS_wA, zA_wA, zK_wR, zN_wR, zR_wR, zS_wR, zA_wR, zK_cp, zN_cp, zR_cp, zS_cp, zA_cp, zK_mp, zN_mp, zR_mp, zS_mp, zA_mp, zfa, zfmm, zfa_1, zfb_1, zfa_2, zfb_2, zfa_3, zfb_3, zfa_4, zfb_4, zfa_5, zfb_5, zfa_6, zfb_6, zfa_7, zfb_7, zfa_8, zfb_8, zfa_9, zfb_9, zfa_10, zfb_10, zfa_12, zfb_12, zfa_20, zfb_20, zfa_21, zfb_21, zfa_30, zfb_30, zfa_48, zfb_48, zfa_60, zfb_60, zfa_61, zfb_61, zfa_65, zfb_65, zfa_97, zfb_97, zfa_100, zfb_100, zfa_120, zfb_120, zfa_124, zfb_124, zfa_500, zfb_500, zfa_792, zfb_792, zfa_2989, zfb_2989, zfm_2, zfn_2, zfm_3, zfn_3, zfm_4, zfn_4, zfm_6, zfn_6, zfm_7, zfn_7, zfm_8, zfn_8, zfm_12, zfn_12, zfm_49, zfn_49, zfm_60, zfn_60, zfm_61, zfn_61, zfm_792, zfn_792, zfm_2989, zfn_2989, Int.zero_add, Int.add_zero, Int.zero_mul, Int.mul_zero, Int.one_mul, Int.mul_one, lk_106 (zmd_lay hm hL0), lr_106_46 (zmd_lay hm hL0), lk_141 (zmd_lay hm hL0), ln_141 (zmd_lay hm hL0), lr_106_44 (zmd_lay hm hL0), lk_139 (zmd_lay hm hL0), ln_139 (zmd_lay hm hL0), lr_106_7 (zmd_lay hm hL0), lk_113 (zmd_lay hm hL0), ln_113 (zmd_lay hm hL0), hm.2.2.2 139 _ rfl, hm.2.2.2 113 _ rfl]
    have hL := zmd_lay hm hL0
    have hcz : c = (fun i => (zA H0 116 (6 * t + i)).toNat) i := hc
    have hc8 : c < 8 := by have := hrow i hiw; omega
    refine zbr_i (fun q => ?_) (fun q => ?_)
    · refine hx H hm (fun j hj => ?_) _
      rw [hA j hj, if_neg (by omega)]
    · obtain ⟨j, rfl⟩ : ∃ j : Nat, v = j := ⟨v.toNat, by omega⟩
      have ej : jj = j + 1 := by omega
      subst ej
      rw [Int.toNat_natCast]
      have hB := fun i j h1 h2 => zCh_b (row := fun i => (zA H0 116 (6 * t + i)).toNat) (hd := fun j => (zA H0 113 j).toNat) (lo := zA H0 139) (od := zod (zA H0 139) (zA H0 140)) (w := w) (n := n) (fun i hi => (hlo _ (by have := hrow i hi; omega)).1) (fun i j hi hj => zod_b (by have := hrow i hi; omega) (by have := hhd j hj; omega) (hlo _ (by have := hrow i hi; omega)) hmi) (fun i hi => by have := hlo (zA H0 116 (6 * t + i)).toNat (by have := hrow i hi; omega); omega) i j h1 h2
      have b1 := hB i j (by omega) (by omega)
      have p1 := z100 (i := i) (by omega)
      have hl := hlo c hc8
      have a1 := hA j (by omega)
      rw [if_pos (by omega)] at a1
      have ih2 := fun (x : Int) (hx : x = (zCh (fun i => (zA H0 116 (6 * t + i)).toNat) (fun j => (zA H0 113 j).toNat) (zA H0 139) (zod (zA H0 139) (zA H0 140))) (i + 1) j)  => ih j (by omega) j ((j : Int) + -1) (zwA H 141 j x)  rfl (by omega) (by omega) (zmd_w hm rfl) (fun k hk => by
        rw [zA_wA]
        by_cases e : k = j
        · rw [if_pos ⟨rfl, e⟩, if_neg (by omega), hx, e]
        · rw [if_neg (fun q => e q.2), hA k hk]
          by_cases e2 : k < j
          · rw [if_pos e2, if_pos (by omega)]
          · rw [if_neg e2, if_neg (by omega)])
      have e0 : (zCh (fun i => (zA H0 116 (6 * t + i)).toNat) (fun j => (zA H0 113 j).toNat) (zA H0 139) (zod (zA H0 139) (zA H0 140))) (i + 1) j = (zCh (fun i => (zA H0 116 (6 * t + i)).toNat) (fun j => (zA H0 113 j).toNat) (zA H0 139) (zod (zA H0 139) (zA H0 140))) i j * zA H0 139 c + (if j = 0 then 0 else (zCh (fun i => (zA H0 116 (6 * t + i)).toNat) (fun j => (zA H0 113 j).toNat) (zA H0 139) (zod (zA H0 139) (zA H0 140))) i (j - 1) * zod (zA H0 139) (zA H0 140) c (zA H0 113 (j - 1)).toNat) := by rw [zCh_s, ← hc]
      rw [a1]
      have pm0 := zmx2 (b := 0) (o := 0) b1 ⟨by omega, by omega⟩ hl.1 (by omega) (by omega)
      repeat (with_reducible refine And.intro ?_ ?_; · first | omega | (simp only [z32, z64]; omega))
      refine zbr_i (fun q1 => ?_) (fun q1 => ?_)
      · have b2 := hB i (j - 1) (by omega) (by omega)
        have a2 := hA (j - 1) (by omega)
        rw [if_pos (by omega)] at a2
        have h3 := hhd (j - 1) (by omega)
        rw [show ((j : Int) - 1).toNat = j - 1 by omega, a2, show zA H0 113 (j - 1) = (((zA H0 113 (j - 1)).toNat : Nat) : Int) by omega]
        have ho := zod_b (mi := zA H0 140) (c := c) (a := (zA H0 113 (j - 1)).toNat) hc8 (by omega) hl hmi
        have pm := zmx2 b1 b2 hl.1 ho.1 ho.2
        repeat (with_reducible refine And.intro ?_ ?_; · first | omega | (simp only [z32, z64]; omega))
        refine zc_mheardAs hL hc8 (by omega) (by rw [hm.2.2.2 139 _ rfl]; exact hl) (fun e he => by rw [hm.2.2.2 140 _ rfl]; exact hmi _ (by omega)) ?_
        have eo : zod (zA H 139) (zA H 140) c (zA H0 113 (j - 1)).toNat = zod (zA H0 139) (zA H0 140) c (zA H0 113 (j - 1)).toNat := by
          have g1 : zA H 139 = zA H0 139 := funext (fun k => hm.2.2.2 139 k rfl)
          have g2 : zA H 140 = zA H0 140 := funext (fun k => hm.2.2.2 140 k rfl)
          rw [g1, g2]
        rw [eo]
        try simp only [zgn_0, zgn_s, zct_0, zct_s, Nat.reduceEqDiff, Nat.reduceBEq, Nat.reduceAdd, Nat.reduceSub, Nat.reduceMul, Int.reduceAdd, Int.reduceSub, Int.reduceMul, Int.reduceNeg, Int.reduceLT, Int.reduceLE, Int.reduceEq, Nat.zero_add, true_and, and_true, false_and, and_false, true_imp_iff, false_imp_iff, not_true_eq_false, not_false_eq_true, if_true, if_false, Bool.false_eq_true, ite_true, ite_false, reduceIte, eq_self, Int.toNat_natCast, zst_0, zst_1, zst_2, zst_3, zst_4, true_or, or_true, or_false, false_or, ze_263_0, zB_263_0, ze_263_22, zB_263_22, ze_263_24, zB_263_24, ze_263_26, zB_263_26, ze_263_47, zB_263_47, ze_263_48, zB_263_48, ze_263_55, zB_263_55, ze_263_57, zB_263_57, ze_263_85, zB_263_85, ze_263_120, zB_263_120, ze_263_145, zB_263_145, ze_263_153, zB_263_153, ze_263_159, zB_263_159, zbr_t, zbr_f, zrun_c, zmI_s, zmL_s, zmR_s, zgt_0, zgt_s, zln_0, zln_s, zs1_0, zs1_1i, zs1_1r, zs1_1n, zs1_1l, zs1_s, zs2_0, zs2_1i, zs2_1r, zs2_1n, zs2_1l, zs2_s, zcn_eq, zcn_ne, zcn_lt, zcn_ge, zcn_gt, zcn_le, zpu_0, zpu_1, zpu_2, zx_iconst, zx_lconst, zx_ldc, zx_ldc2, zx_null, zx_iload, zx_lload, zx_aload, zx_istore, zx_lstore, zx_astore, zx_iinc, zx_iadd, zx_isub, zx_imul, zx_idiv, zx_irem, zx_iand, zx_ior, zx_ixor, zx_ishl, zx_ishr, zx_iushr, zx_i2b, zx_i2l, zx_l2i, zx_ladd, zx_lmul, zx_ldiv, zx_lrem, zx_land, zx_lor, zx_lshl, zx_lshr, zx_lcmp, zx_dupi, zx_dupr, zx_dup2l, zx_dup2i, zx_pop, zx_ifc, zx_icmp, zx_ifnullN, zx_ifnullS, zx_ifnonN, zx_ifnonS, zx_goto, zx_gotow, zx_switch, zx_iaload, zx_baload, zx_laload, zx_aaload, zx_iastore, zx_bastore, zx_lastore, zx_aastore, zx_alen, zx_newarray, zx_anewarray, zx_new, zx_getI, zx_getL, zx_getR, zx_putI, zx_putZ, zx_putL, zx_putR, zx_callS, zx_callV, zx_objinit, zx_cpyi, zx_cpyl, zx_mmax, zx_mmin, zx_mminl, zx_ireturn, zx_areturn, zx_lreturn, zx_return, zcs_0, zcs_1, zcv_1, zcs_2, zcv_2, zcs_3, zcv_3, zcs_4, zcv_4, zcs_5, zcv_5, zcs_6, zcv_6, zcs_7, zcv_7, Int.reduceToNat, Nat.reduceDiv, Nat.reduceMod, zJ, zC, zK_wA, zN_wA, zR_wA, zS_wA, zA_wA, zK_wR, zN_wR, zR_wR, zS_wR, zA_wR, zK_cp, zN_cp, zR_cp, zS_cp, zA_cp, zK_mp, zN_mp, zR_mp, zS_mp, zA_mp, zfa, zfmm, zfa_1, zfb_1, zfa_2, zfb_2, zfa_3, zfb_3, zfa_4, zfb_4, zfa_5, zfb_5, zfa_6, zfb_6, zfa_7, zfb_7, zfa_8, zfb_8, zfa_9, zfb_9, zfa_10, zfb_10, zfa_12, zfb_12, zfa_20, zfb_20, zfa_21, zfb_21, zfa_30, zfb_30, zfa_48, zfb_48, zfa_60, zfb_60, zfa_61, zfb_61, zfa_65, zfb_65, zfa_97, zfb_97, zfa_100, zfb_100, zfa_120, zfb_120, zfa_124, zfb_124, zfa_500, zfb_500, zfa_792, zfb_792, zfa_2989, zfb_2989, zfm_2, zfn_2, zfm_3, zfn_3, zfm_4, zfn_4, zfm_6, zfn_6, zfm_7, zfn_7, zfm_8, zfn_8, zfm_12, zfn_12, zfm_49, zfn_49, zfm_60, zfn_60, zfm_61, zfn_61, zfm_792, zfn_792, zfm_2989, zfn_2989, Int.zero_add, Int.add_zero, Int.zero_mul, Int.mul_zero, Int.one_mul, Int.mul_one, lk_106 (zmd_lay hm hL0), lr_106_46 (zmd_lay hm hL0), lk_141 (zmd_lay hm hL0), ln_141 (zmd_lay hm hL0), lr_106_44 (zmd_lay hm hL0), lk_139 (zmd_lay hm hL0), ln_139 (zmd_lay hm hL0), lr_106_7 (zmd_lay hm hL0), lk_113 (zmd_lay hm hL0), ln_113 (zmd_lay hm hL0), hm.2.2.2 139 _ rfl, hm.2.2.2 113 _ rfl]
        repeat (with_reducible refine And.intro ?_ ?_; · first | omega | (simp only [z32, z64]; omega))
        rw [if_neg (by omega)] at e0
        exact ih2 _ e0.symm
      · repeat (with_reducible refine And.intro ?_ ?_; · first | omega | (simp only [z32, z64]; omega))
        rw [if_pos (by omega), Int.add_zero] at e0
        exact ih2 _ e0.symm
