set_option maxRecDepth 100000 in
theorem zl_deC {xs : Nat → Int} {L d b1 b2 : Nat} {H0 : zH} {Q : zQ} {s r p : Nat} {q v4 : Int} {w7 w8 : Option zV} {G : zH} (hs : s < 32768) (hr : r < zCu s 5) (h : ∀ a v6 : Nat, a < 5 → zCu s a ≤ r → zCu s (a + 1) = r + v6 → v6 ≠ 0 → zEt xs L d b1 b2 false 234 46 [some (zr (some 106)), some (zi s), some (zi p), some (zi q), some (zi v4), some (zi (a + 1 : Nat)), some (zi v6), w7, w8] [] G Q) : ∀ (kk : Nat) (a : Nat) (v6 : Nat), 5 - a = kk → (a < 5) → (zCu s a ≤ r) → (zCu s (a + 1) = r + v6) → zEt xs L d b1 b2 false 234 22 [some (zr (some 106)), some (zi s), some (zi p), some (zi q), some (zi v4), some (zi (a + 1 : Nat)), some (zi v6), w7, w8] [] G Q := by
  intro kk
  induction kk using Nat.strongRecOn with
  | ind kk ih =>
    intro a v6 hkk ha h1 h2
    refine zgo_at [22, 46] 8 ?_
    try simp -implicitDefEqProofs only [zgn_0, zgn_s, zct_0, zct_s, Nat.reduceEqDiff, Nat.reduceBEq, Nat.reduceAdd, Nat.reduceSub, Nat.reduceMul, Int.reduceAdd, Int.reduceSub, Int.reduceMul, Int.reduceNeg, Int.reduceLT, Int.reduceLE, Int.reduceEq, Nat.zero_add, true_and, and_true, false_and, and_false, true_imp_iff, false_imp_iff, not_true_eq_false, not_false_eq_true, if_true, if_false, Bool.false_eq_true, ite_true, ite_false, reduceIte, eq_self, Int.toNat_natCast, zst_0, zst_1, zst_2, zst_3, zst_4, true_or, or_true, or_false, false_or, ze_234_0, zB_234_0, ze_234_14, zB_234_14, ze_234_22, zB_234_22, ze_234_46, zB_234_46, ze_234_52, zB_234_52, ze_234_96, zB_234_96, ze_234_100, zB_234_100, ze_234_106, zB_234_106, ze_234_143, zB_234_143, zbr_t, zbr_f, zrun_c, zmI_s, zmL_s, zmR_s, zgt_0, zgt_s, zln_0, zln_s, zs1_0, zs1_1i, zs1_1r, zs1_1n, zs1_1l, zs1_s, zs2_0, zs2_1i, zs2_1r, zs2_1n, zs2_1l, zs2_s, zcn_eq, zcn_ne, zcn_lt, zcn_ge, zcn_gt, zcn_le, zpu_0, zpu_1, zpu_2, zx_iconst, zx_lconst, zx_ldc, zx_ldc2, zx_null, zx_iload, zx_lload, zx_aload, zx_istore, zx_lstore, zx_astore, zx_iinc, zx_iadd, zx_isub, zx_imul, zx_idiv, zx_irem, zx_iand, zx_ior, zx_ixor, zx_ishl, zx_ishr, zx_iushr, zx_i2b, zx_i2l, zx_l2i, zx_ladd, zx_lmul, zx_ldiv, zx_lrem, zx_land, zx_lor, zx_lshl, zx_lshr, zx_lcmp, zx_dupi, zx_dupr, zx_dup2l, zx_dup2i, zx_pop, zx_ifc, zx_icmp, zx_ifnullN, zx_ifnullS, zx_ifnonN, zx_ifnonS, zx_goto, zx_gotow, zx_switch, zx_iaload, zx_baload, zx_laload, zx_aaload, zx_iastore, zx_bastore, zx_lastore, zx_aastore, zx_alen, zx_newarray, zx_anewarray, zx_new, zx_getI, zx_getL, zx_getR, zx_putI, zx_putZ, zx_putL, zx_putR, zx_callS, zx_callV, zx_objinit, zx_cpyi, zx_cpyl, zx_mmax, zx_mmin, zx_mminl, zx_ireturn, zx_areturn, zx_lreturn, zx_return, zcs_0, zcs_1, zcv_1, zcs_2, zcv_2, zcs_3, zcv_3, zcs_4, zcv_4, zcs_5, zcv_5, zcs_6, zcv_6, zcs_7, zcv_7, Int.reduceToNat, Nat.reduceDiv, Nat.reduceMod, zJ, zC, zK_wA, zN_wA, zR_wA, zS_wA, zA_wA, zK_wR, zN_wR, zR_wR, zS_wR, zA_wR, zK_cp, zN_cp, zR_cp, zS_cp, zA_cp, zK_mp, zN_mp, zR_mp, zS_mp, zA_mp, zfa, zfmm, zfa_1, zfb_1, zfa_2, zfb_2, zfa_3, zfb_3, zfa_4, zfb_4, zfa_5, zfb_5, zfa_6, zfb_6, zfa_7, zfb_7, zfa_8, zfb_8, zfa_9, zfb_9, zfa_10, zfb_10, zfa_12, zfb_12, zfa_20, zfb_20, zfa_21, zfb_21, zfa_30, zfb_30, zfa_48, zfb_48, zfa_60, zfb_60, zfa_61, zfb_61, zfa_65, zfb_65, zfa_97, zfb_97, zfa_100, zfb_100, zfa_120, zfb_120, zfa_124, zfb_124, zfa_500, zfb_500, zfa_792, zfb_792, zfa_2989, zfb_2989, zfm_2, zfn_2, zfm_3, zfn_3, zfm_4, zfn_4, zfm_6, zfn_6, zfm_7, zfn_7, zfm_8, zfn_8, zfm_12, zfn_12, zfm_49, zfn_49, zfm_60, zfn_60, zfm_61, zfn_61, zfm_792, zfn_792, zfm_2989, zfn_2989, Int.zero_add, Int.add_zero, Int.zero_mul, Int.mul_zero, Int.one_mul, Int.mul_one]
    refine zbr_i (fun q0 => ?_) (fun q0 => ?_)
    · exact h a v6 ha h1 h2 (by omega)
    · have e6 : v6 = 0 := by omega
      subst e6
      have a4 : a < 4 := by
        apply Classical.byContradiction
        intro q
        have : a = 4 := by omega
        subst this
        have h2 : zCu s 5 = r + 0 := h2
        omega
      rw [show ((a + 1 + 1 : Nat) : Int) - 1 = ((a + 1 : Nat) : Int) by omega, zDg_e hs (by omega)]
      repeat (with_reducible refine And.intro ?_ ?_; · first | omega | (simp only [z32, z64]; omega))
      exact ih (5 - (a + 1)) (by omega) (a + 1) (zDg s (a + 1)) rfl (by omega) (by omega) (by rw [zCu_s s (a + 1)]; omega)
set_option maxRecDepth 100000 in
theorem zl_deB {xs : Nat → Int} {L d b1 b2 : Nat} {H0 : zH} {Q : zQ} {s p m : Nat} {o : Nat → Nat} (hL0 : zLay H0) (hp : p < 128) (hs : s < 32768) (hO : zOr (zPp p) (zA H0 127) m o) (hm7 : m ≤ 7) (htot : ztot s = m) (hw : ∀ t : Nat, t < 7 → 0 ≤ zA H0 127 t ∧ zA H0 127 t ≤ 1000000) (h : ∀ G : zH, zmd (zin [125] []) H0 G → (∀ r : Nat, r < m → zA G 125 (o r) = (zLn s r : Nat)) → Q (zCs s (zA H0 127) o m) G) : ∀ (kk : Nat) (r : Nat) (q : Nat) (a : Nat) (v6 : Nat) (G : zH) (w7 : Option zV) (w8 : Option zV), 7 - r = kk → (r ≤ m) → (q < 128) → (∀ t : Nat, t < 7 → (q / 2 ^ t % 2 = 1 ↔ ∃ j : Nat, j < r ∧ o j = t)) → (a < 5) → (zCu s a ≤ r) → (zCu s (a + 1) = r + v6) → (zmd (zin [125] []) H0 G) → (∀ j : Nat, j < r → zA G 125 (o j) = (zLn s j : Nat)) → zEt xs L d b1 b2 false 234 14 [some (zr (some 106)), some (zi s), some (zi p), some (zi q), some (zi (zCs s (zA H0 127) o r)), some (zi (a + 1 : Nat)), some (zi v6), w7, w8] [] G Q := by
  intro kk
  induction kk using Nat.strongRecOn with
  | ind kk ih =>
    intro r q a v6 G w7 w8 hkk hr hq hqb ha h1 h2 hm hT
    refine zgo_at [14, 22] 8 ?_
    try simp -implicitDefEqProofs only [zgn_0, zgn_s, zct_0, zct_s, Nat.reduceEqDiff, Nat.reduceBEq, Nat.reduceAdd, Nat.reduceSub, Nat.reduceMul, Int.reduceAdd, Int.reduceSub, Int.reduceMul, Int.reduceNeg, Int.reduceLT, Int.reduceLE, Int.reduceEq, Nat.zero_add, true_and, and_true, false_and, and_false, true_imp_iff, false_imp_iff, not_true_eq_false, not_false_eq_true, if_true, if_false, Bool.false_eq_true, ite_true, ite_false, reduceIte, eq_self, Int.toNat_natCast, zst_0, zst_1, zst_2, zst_3, zst_4, true_or, or_true, or_false, false_or, ze_234_0, zB_234_0, ze_234_14, zB_234_14, ze_234_22, zB_234_22, ze_234_46, zB_234_46, ze_234_52, zB_234_52, ze_234_96, zB_234_96, ze_234_100, zB_234_100, ze_234_106, zB_234_106, ze_234_143, zB_234_143, zbr_t, zbr_f, zrun_c, zmI_s, zmL_s, zmR_s, zgt_0, zgt_s, zln_0, zln_s, zs1_0, zs1_1i, zs1_1r, zs1_1n, zs1_1l, zs1_s, zs2_0, zs2_1i, zs2_1r, zs2_1n, zs2_1l, zs2_s, zcn_eq, zcn_ne, zcn_lt, zcn_ge, zcn_gt, zcn_le, zpu_0, zpu_1, zpu_2, zx_iconst, zx_lconst, zx_ldc, zx_ldc2, zx_null, zx_iload, zx_lload, zx_aload, zx_istore, zx_lstore, zx_astore, zx_iinc, zx_iadd, zx_isub, zx_imul, zx_idiv, zx_irem, zx_iand, zx_ior, zx_ixor, zx_ishl, zx_ishr, zx_iushr, zx_i2b, zx_i2l, zx_l2i, zx_ladd, zx_lmul, zx_ldiv, zx_lrem, zx_land, zx_lor, zx_lshl, zx_lshr, zx_lcmp, zx_dupi, zx_dupr, zx_dup2l, zx_dup2i, zx_pop, zx_ifc, zx_icmp, zx_ifnullN, zx_ifnullS, zx_ifnonN, zx_ifnonS, zx_goto, zx_gotow, zx_switch, zx_iaload, zx_baload, zx_laload, zx_aaload, zx_iastore, zx_bastore, zx_lastore, zx_aastore, zx_alen, zx_newarray, zx_anewarray, zx_new, zx_getI, zx_getL, zx_getR, zx_putI, zx_putZ, zx_putL, zx_putR, zx_callS, zx_callV, zx_objinit, zx_cpyi, zx_cpyl, zx_mmax, zx_mmin, zx_mminl, zx_ireturn, zx_areturn, zx_lreturn, zx_return, zcs_0, zcs_1, zcv_1, zcs_2, zcv_2, zcs_3, zcv_3, zcs_4, zcv_4, zcs_5, zcv_5, zcs_6, zcv_6, zcs_7, zcv_7, Int.reduceToNat, Nat.reduceDiv, Nat.reduceMod, zJ, zC, zK_wA, zN_wA, zR_wA, zS_wA, zA_wA, zK_wR, zN_wR, zR_wR, zS_wR, zA_wR, zK_cp, zN_cp, zR_cp, zS_cp, zA_cp, zK_mp, zN_mp, zR_mp, zS_mp, zA_mp, zfa, zfmm, zfa_1, zfb_1, zfa_2, zfb_2, zfa_3, zfb_3, zfa_4, zfb_4, zfa_5, zfb_5, zfa_6, zfb_6, zfa_7, zfb_7, zfa_8, zfb_8, zfa_9, zfb_9, zfa_10, zfb_10, zfa_12, zfb_12, zfa_20, zfb_20, zfa_21, zfb_21, zfa_30, zfb_30, zfa_48, zfb_48, zfa_60, zfb_60, zfa_61, zfb_61, zfa_65, zfb_65, zfa_97, zfb_97, zfa_100, zfb_100, zfa_120, zfb_120, zfa_124, zfb_124, zfa_500, zfb_500, zfa_792, zfb_792, zfa_2989, zfb_2989, zfm_2, zfn_2, zfm_3, zfn_3, zfm_4, zfn_4, zfm_6, zfn_6, zfm_7, zfn_7, zfm_8, zfn_8, zfm_12, zfn_12, zfm_49, zfn_49, zfm_60, zfn_60, zfm_61, zfn_61, zfm_792, zfn_792, zfm_2989, zfn_2989, Int.zero_add, Int.add_zero, Int.zero_mul, Int.mul_zero, Int.one_mul, Int.mul_one]
    rw [zdf_e p hp q hq]
    have hz := zdf_b p hp q hq
    have hX := zq_0 _ hz.1
    have nin : ∀ j : Nat, r ≤ j → j < m → (zPp p (o j) ∧ ¬ q / 2 ^ (o j) % 2 = 1) := by
      intro j h1 h2
      have hPj := hO.1 j h2
      refine ⟨hPj, fun hb => ?_⟩
      obtain ⟨i, hi, ei⟩ := (hqb _ hPj.1).mp hb
      have := zOr_i hO (by omega) h2 ei
      omega
    refine zbr_i (fun q0 => ?_) (fun q0 => ?_)
    · have e0 : p &&& (127 ^^^ q) = 0 := by omega
      have er : r = m := by
        apply Classical.byContradiction
        intro hne
        have hn := nin r (Nat.le_refl _) (by omega)
        exact (hX.mp e0) (o r) hn.1.1 ((hz.2 _ hn.1.1).mpr ⟨hn.1.2, hn.2⟩)
      subst er
      exact h G hm hT
    · have hrm : r < m := by
        apply Classical.byContradiction
        intro hne
        have er : r = m := by omega
        subst er
        refine q0 ?_
        rw [hX.mpr (fun t ht hb => ?_)]
        · rfl
        · obtain ⟨b1, b2⟩ := (hz.2 t ht).mp hb
          obtain ⟨j, hj, ej⟩ := hO.2.1 t ⟨ht, b1⟩
          exact b2 ((hqb t ht).mpr ⟨j, hj, ej⟩)
      refine zl_deC (H0 := H0) (s := s) (r := r) hs (by rw [zCu_5 hs, htot]; exact hrm) (fun a v6 ha h1 h2 h6 => ?_) _ a v6 rfl ha h1 h2
      refine zgo_at [52] 4 ?_
      try simp -implicitDefEqProofs only [zgn_0, zgn_s, zct_0, zct_s, Nat.reduceEqDiff, Nat.reduceBEq, Nat.reduceAdd, Nat.reduceSub, Nat.reduceMul, Int.reduceAdd, Int.reduceSub, Int.reduceMul, Int.reduceNeg, Int.reduceLT, Int.reduceLE, Int.reduceEq, Nat.zero_add, true_and, and_true, false_and, and_false, true_imp_iff, false_imp_iff, not_true_eq_false, not_false_eq_true, if_true, if_false, Bool.false_eq_true, ite_true, ite_false, reduceIte, eq_self, Int.toNat_natCast, zst_0, zst_1, zst_2, zst_3, zst_4, true_or, or_true, or_false, false_or, ze_234_0, zB_234_0, ze_234_14, zB_234_14, ze_234_22, zB_234_22, ze_234_46, zB_234_46, ze_234_52, zB_234_52, ze_234_96, zB_234_96, ze_234_100, zB_234_100, ze_234_106, zB_234_106, ze_234_143, zB_234_143, zbr_t, zbr_f, zrun_c, zmI_s, zmL_s, zmR_s, zgt_0, zgt_s, zln_0, zln_s, zs1_0, zs1_1i, zs1_1r, zs1_1n, zs1_1l, zs1_s, zs2_0, zs2_1i, zs2_1r, zs2_1n, zs2_1l, zs2_s, zcn_eq, zcn_ne, zcn_lt, zcn_ge, zcn_gt, zcn_le, zpu_0, zpu_1, zpu_2, zx_iconst, zx_lconst, zx_ldc, zx_ldc2, zx_null, zx_iload, zx_lload, zx_aload, zx_istore, zx_lstore, zx_astore, zx_iinc, zx_iadd, zx_isub, zx_imul, zx_idiv, zx_irem, zx_iand, zx_ior, zx_ixor, zx_ishl, zx_ishr, zx_iushr, zx_i2b, zx_i2l, zx_l2i, zx_ladd, zx_lmul, zx_ldiv, zx_lrem, zx_land, zx_lor, zx_lshl, zx_lshr, zx_lcmp, zx_dupi, zx_dupr, zx_dup2l, zx_dup2i, zx_pop, zx_ifc, zx_icmp, zx_ifnullN, zx_ifnullS, zx_ifnonN, zx_ifnonS, zx_goto, zx_gotow, zx_switch, zx_iaload, zx_baload, zx_laload, zx_aaload, zx_iastore, zx_bastore, zx_lastore, zx_aastore, zx_alen, zx_newarray, zx_anewarray, zx_new, zx_getI, zx_getL, zx_getR, zx_putI, zx_putZ, zx_putL, zx_putR, zx_callS, zx_callV, zx_objinit, zx_cpyi, zx_cpyl, zx_mmax, zx_mmin, zx_mminl, zx_ireturn, zx_areturn, zx_lreturn, zx_return, zcs_0, zcs_1, zcv_1, zcs_2, zcv_2, zcs_3, zcv_3, zcs_4, zcv_4, zcs_5, zcv_5, zcs_6, zcv_6, zcs_7, zcv_7, Int.reduceToNat, Nat.reduceDiv, Nat.reduceMod, zJ, zC, zK_wA, zN_wA, zR_wA, zS_wA, zA_wA, zK_wR, zN_wR, zR_wR, zS_wR, zA_wR, zK_cp, zN_cp, zR_cp, zS_cp, zA_cp, zK_mp, zN_mp, zR_mp, zS_mp, zA_mp, zfa, zfmm, zfa_1, zfb_1, zfa_2, zfb_2, zfa_3, zfb_3, zfa_4, zfb_4, zfa_5, zfb_5, zfa_6, zfb_6, zfa_7, zfb_7, zfa_8, zfb_8, zfa_9, zfb_9, zfa_10, zfb_10, zfa_12, zfb_12, zfa_20, zfb_20, zfa_21, zfb_21, zfa_30, zfb_30, zfa_48, zfb_48, zfa_60, zfb_60, zfa_61, zfb_61, zfa_65, zfb_65, zfa_97, zfb_97, zfa_100, zfb_100, zfa_120, zfb_120, zfa_124, zfb_124, zfa_500, zfb_500, zfa_792, zfb_792, zfa_2989, zfb_2989, zfm_2, zfn_2, zfm_3, zfn_3, zfm_4, zfn_4, zfm_6, zfn_6, zfm_7, zfn_7, zfm_8, zfn_8, zfm_12, zfn_12, zfm_49, zfn_49, zfm_60, zfn_60, zfm_61, zfn_61, zfm_792, zfn_792, zfm_2989, zfn_2989, Int.zero_add, Int.add_zero, Int.zero_mul, Int.mul_zero, Int.one_mul, Int.mul_one]
      have hx := nin r (Nat.le_refl _) hrm
      refine zl_deA (p := p) (q := q) hL0 hp hq hm ⟨o r, hx⟩ (fun c hc hcb => ?_) _ 0 (-1) rfl (by omega) (Or.inl ⟨rfl, fun u hu => by omega⟩)
      have ec : c = o r := by
        obtain ⟨j, hj, ej⟩ := hO.2.1 c hc.1
        have hjr : r ≤ j := by
          apply Classical.byContradiction
          intro hne
          exact hc.2 ((hqb c hc.1.1).mpr ⟨j, by omega, ej⟩)
        by_cases e : j = r
        · rw [← ej, e]
        · have b1 := hO.2.2 r j (by omega) hj
          rw [ej] at b1
          exact (zbe_a b1 (hcb (o r) hx (fun e2 => by rw [← ej] at e2; exact e (zOr_i hO hj hrm e2.symm)))).elim
      have hc7 : c < 7 := hc.1.1
      have e127 : zA G 127 c = zA H0 127 c := hm.2.2.2 127 c rfl
      have hwc := hw c hc7
      have hl : zLn s r = a + 1 := zLn_e ha h1 (by omega)
      have hcs := zCs_b (s := s) (w := zA H0 127) (o := o) (B := 1000000) r (fun j hj => hw _ (hO.1 j (by omega)).1)
      have hor := zq_or q hq c hc7
      have esh : zshl 1 (c : Int) = ((2 ^ c : Nat) : Int) := by
        have h2c : 2 ^ c ≤ 2 ^ 6 := Nat.pow_le_pow_right (by decide) (by omega)
        have := zshl_n (a := 1) (k := c) (by omega) (by rw [Nat.one_mul]; omega)
        rw [Nat.one_mul] at this
        exact this
      have h2c : 2 ^ c ≤ 64 := Nat.pow_le_pow_right (n := 2) (by decide) (show c ≤ 6 by omega)
      have hprod : 0 ≤ zA H0 127 c * ((a + 1 : Nat) : Int) ∧ zA H0 127 c * ((a + 1 : Nat) : Int) ≤ 5000000 := by
        have h1' : 0 ≤ zA H0 127 c * ((a + 1 : Nat) : Int) := Int.mul_nonneg hwc.1 (by omega)
        have h2' : zA H0 127 c * ((a + 1 : Nat) : Int) ≤ 1000000 * ((a + 1 : Nat) : Int) := Int.mul_le_mul_of_nonneg_right hwc.2 (by omega)
        omega
      refine zgo_at [14] 4 ?_
      try simp -implicitDefEqProofs only [zgn_0, zgn_s, zct_0, zct_s, Nat.reduceEqDiff, Nat.reduceBEq, Nat.reduceAdd, Nat.reduceSub, Nat.reduceMul, Int.reduceAdd, Int.reduceSub, Int.reduceMul, Int.reduceNeg, Int.reduceLT, Int.reduceLE, Int.reduceEq, Nat.zero_add, true_and, and_true, false_and, and_false, true_imp_iff, false_imp_iff, not_true_eq_false, not_false_eq_true, if_true, if_false, Bool.false_eq_true, ite_true, ite_false, reduceIte, eq_self, Int.toNat_natCast, zst_0, zst_1, zst_2, zst_3, zst_4, true_or, or_true, or_false, false_or, ze_234_0, zB_234_0, ze_234_14, zB_234_14, ze_234_22, zB_234_22, ze_234_46, zB_234_46, ze_234_52, zB_234_52, ze_234_96, zB_234_96, ze_234_100, zB_234_100, ze_234_106, zB_234_106, ze_234_143, zB_234_143, zbr_t, zbr_f, zrun_c, zmI_s, zmL_s, zmR_s, zgt_0, zgt_s, zln_0, zln_s, zs1_0, zs1_1i, zs1_1r, zs1_1n, zs1_1l, zs1_s, zs2_0, zs2_1i, zs2_1r, zs2_1n, zs2_1l, zs2_s, zcn_eq, zcn_ne, zcn_lt, zcn_ge, zcn_gt, zcn_le, zpu_0, zpu_1, zpu_2, zx_iconst, zx_lconst, zx_ldc, zx_ldc2, zx_null, zx_iload, zx_lload, zx_aload, zx_istore, zx_lstore, zx_astore, zx_iinc, zx_iadd, zx_isub, zx_imul, zx_idiv, zx_irem, zx_iand, zx_ior, zx_ixor, zx_ishl, zx_ishr, zx_iushr, zx_i2b, zx_i2l, zx_l2i, zx_ladd, zx_lmul, zx_ldiv, zx_lrem, zx_land, zx_lor, zx_lshl, zx_lshr, zx_lcmp, zx_dupi, zx_dupr, zx_dup2l, zx_dup2i, zx_pop, zx_ifc, zx_icmp, zx_ifnullN, zx_ifnullS, zx_ifnonN, zx_ifnonS, zx_goto, zx_gotow, zx_switch, zx_iaload, zx_baload, zx_laload, zx_aaload, zx_iastore, zx_bastore, zx_lastore, zx_aastore, zx_alen, zx_newarray, zx_anewarray, zx_new, zx_getI, zx_getL, zx_getR, zx_putI, zx_putZ, zx_putL, zx_putR, zx_callS, zx_callV, zx_objinit, zx_cpyi, zx_cpyl, zx_mmax, zx_mmin, zx_mminl, zx_ireturn, zx_areturn, zx_lreturn, zx_return, zcs_0, zcs_1, zcv_1, zcs_2, zcv_2, zcs_3, zcv_3, zcs_4, zcv_4, zcs_5, zcv_5, zcs_6, zcv_6, zcs_7, zcv_7, Int.reduceToNat, Nat.reduceDiv, Nat.reduceMod, zJ, zC, zK_wA, zN_wA, zR_wA, zS_wA, zA_wA, zK_wR, zN_wR, zR_wR, zS_wR, zA_wR, zK_cp, zN_cp, zR_cp, zS_cp, zA_cp, zK_mp, zN_mp, zR_mp, zS_mp, zA_mp, zfa, zfmm, zfa_1, zfb_1, zfa_2, zfb_2, zfa_3, zfb_3, zfa_4, zfb_4, zfa_5, zfb_5, zfa_6, zfb_6, zfa_7, zfb_7, zfa_8, zfb_8, zfa_9, zfb_9, zfa_10, zfb_10, zfa_12, zfb_12, zfa_20, zfb_20, zfa_21, zfb_21, zfa_30, zfb_30, zfa_48, zfb_48, zfa_60, zfb_60, zfa_61, zfb_61, zfa_65, zfb_65, zfa_97, zfb_97, zfa_100, zfb_100, zfa_120, zfb_120, zfa_124, zfb_124, zfa_500, zfb_500, zfa_792, zfb_792, zfa_2989, zfb_2989, zfm_2, zfn_2, zfm_3, zfn_3, zfm_4, zfn_4, zfm_6, zfn_6, zfm_7, zfn_7, zfm_8, zfn_8, zfm_12, zfn_12, zfm_49, zfn_49, zfm_60, zfn_60, zfm_61, zfn_61, zfm_792, zfn_792, zfm_2989, zfn_2989, Int.zero_add, Int.add_zero, Int.zero_mul, Int.mul_zero, Int.one_mul, Int.mul_one, lk_106 (zmd_lay hm hL0), lr_106_23 (zmd_lay hm hL0), lk_125 (zmd_lay hm hL0), ln_125 (zmd_lay hm hL0), lr_106_25 (zmd_lay hm hL0), lk_127 (zmd_lay hm hL0), ln_127 (zmd_lay hm hL0), e127, esh]
      rw [zor_n (by omega) (by omega)]
      repeat (with_reducible refine And.intro ?_ ?_; · first | omega | (simp only [z32, z64]; omega))
      have hv6 : v6 ≤ 7 := by
        have e5 := zCu_le (s := s) (show a + 1 ≤ 5 by omega)
        rw [zCu_5 hs, htot] at e5
        omega
      refine ⟨by simp only [z32]; omega, ?_⟩
      have e6 : (v6 : Int) + -1 = ((v6 - 1 : Nat) : Int) := by omega
      have ecs : zCs s (zA H0 127) o r + zA H0 127 c * ((a + 1 : Nat) : Int) = zCs s (zA H0 127) o (r + 1) := by rw [zCs_s, ← ec, hl]
      rw [e6, ecs]
      refine ih (7 - (r + 1)) (by omega) (r + 1) (q ||| 2 ^ c) a (v6 - 1) (zwA G 125 c ((a + 1 : Nat) : Int)) _ _ rfl (by omega) hor.1 (fun t ht => ?_) ha (by omega) (by omega) (zmd_w hm rfl) (fun j hj => ?_)
      · rw [hor.2 t ht, hqb t ht]
        constructor
        · rintro (⟨j, r1, r2⟩ | r1)
          · exact ⟨j, by omega, r2⟩
          · exact ⟨r, by omega, by rw [r1, ec]⟩
        · rintro ⟨j, r1, r2⟩
          by_cases e : j = r
          · subst e; exact Or.inr (by rw [ec, r2])
          · exact Or.inl ⟨j, by omega, r2⟩
      · rw [zA_wA]
        by_cases e : j = r
        · subst e; rw [if_pos ⟨rfl, ec.symm⟩, hl]
        · rw [if_neg (fun q => e (zOr_i hO (by omega) hrm (by rw [← ec]; exact q.2)))]
          exact hT j (by omega)
set_option maxRecDepth 100000 in
theorem zc_deal {xs : Nat → Int} {L d b1 b2 : Nat} {H0 : zH} {Q : zQ} {s p m : Nat} {o : Nat → Nat} (hL0 : zLay H0) (hp : p < 128) (hs : s < 32768) (hO : zOr (zPp p) (zA H0 127) m o) (hm7 : m ≤ 7) (htot : ztot s = m) (hw : ∀ t : Nat, t < 7 → 0 ≤ zA H0 127 t ∧ zA H0 127 t ≤ 1000000) (h : ∀ G : zH, zmd (zin [125] []) H0 G → (∀ t : Nat, t < 7 → zPp p t → zA G 125 t = zTs m o s t) → Q (zCs s (zA H0 127) o m) G) : zEm xs L d b1 b2 234 [zr (some 106), zi s, zi p] H0 Q := by
  refine zem_234 (zgo_at [14] 4 ?_)
  try simp -implicitDefEqProofs only [zgn_0, zgn_s, zct_0, zct_s, Nat.reduceEqDiff, Nat.reduceBEq, Nat.reduceAdd, Nat.reduceSub, Nat.reduceMul, Int.reduceAdd, Int.reduceSub, Int.reduceMul, Int.reduceNeg, Int.reduceLT, Int.reduceLE, Int.reduceEq, Nat.zero_add, true_and, and_true, false_and, and_false, true_imp_iff, false_imp_iff, not_true_eq_false, not_false_eq_true, if_true, if_false, Bool.false_eq_true, ite_true, ite_false, reduceIte, eq_self, Int.toNat_natCast, zst_0, zst_1, zst_2, zst_3, zst_4, true_or, or_true, or_false, false_or, ze_234_0, zB_234_0, ze_234_14, zB_234_14, ze_234_22, zB_234_22, ze_234_46, zB_234_46, ze_234_52, zB_234_52, ze_234_96, zB_234_96, ze_234_100, zB_234_100, ze_234_106, zB_234_106, ze_234_143, zB_234_143, zbr_t, zbr_f, zrun_c, zmI_s, zmL_s, zmR_s, zgt_0, zgt_s, zln_0, zln_s, zs1_0, zs1_1i, zs1_1r, zs1_1n, zs1_1l, zs1_s, zs2_0, zs2_1i, zs2_1r, zs2_1n, zs2_1l, zs2_s, zcn_eq, zcn_ne, zcn_lt, zcn_ge, zcn_gt, zcn_le, zpu_0, zpu_1, zpu_2, zx_iconst, zx_lconst, zx_ldc, zx_ldc2, zx_null, zx_iload, zx_lload, zx_aload, zx_istore, zx_lstore, zx_astore, zx_iinc, zx_iadd, zx_isub, zx_imul, zx_idiv, zx_irem, zx_iand, zx_ior, zx_ixor, zx_ishl, zx_ishr, zx_iushr, zx_i2b, zx_i2l, zx_l2i, zx_ladd, zx_lmul, zx_ldiv, zx_lrem, zx_land, zx_lor, zx_lshl, zx_lshr, zx_lcmp, zx_dupi, zx_dupr, zx_dup2l, zx_dup2i, zx_pop, zx_ifc, zx_icmp, zx_ifnullN, zx_ifnullS, zx_ifnonN, zx_ifnonS, zx_goto, zx_gotow, zx_switch, zx_iaload, zx_baload, zx_laload, zx_aaload, zx_iastore, zx_bastore, zx_lastore, zx_aastore, zx_alen, zx_newarray, zx_anewarray, zx_new, zx_getI, zx_getL, zx_getR, zx_putI, zx_putZ, zx_putL, zx_putR, zx_callS, zx_callV, zx_objinit, zx_cpyi, zx_cpyl, zx_mmax, zx_mmin, zx_mminl, zx_ireturn, zx_areturn, zx_lreturn, zx_return, zcs_0, zcs_1, zcv_1, zcs_2, zcv_2, zcs_3, zcv_3, zcs_4, zcv_4, zcs_5, zcv_5, zcs_6, zcv_6, zcs_7, zcv_7, Int.reduceToNat, Nat.reduceDiv, Nat.reduceMod, zJ, zC, zK_wA, zN_wA, zR_wA, zS_wA, zA_wA, zK_wR, zN_wR, zR_wR, zS_wR, zA_wR, zK_cp, zN_cp, zR_cp, zS_cp, zA_cp, zK_mp, zN_mp, zR_mp, zS_mp, zA_mp, zfa, zfmm, zfa_1, zfb_1, zfa_2, zfb_2, zfa_3, zfb_3, zfa_4, zfb_4, zfa_5, zfb_5, zfa_6, zfb_6, zfa_7, zfb_7, zfa_8, zfb_8, zfa_9, zfb_9, zfa_10, zfb_10, zfa_12, zfb_12, zfa_20, zfb_20, zfa_21, zfb_21, zfa_30, zfb_30, zfa_48, zfb_48, zfa_60, zfb_60, zfa_61, zfb_61, zfa_65, zfb_65, zfa_97, zfb_97, zfa_100, zfb_100, zfa_120, zfb_120, zfa_124, zfb_124, zfa_500, zfb_500, zfa_792, zfb_792, zfa_2989, zfb_2989, zfm_2, zfn_2, zfm_3, zfn_3, zfm_4, zfn_4, zfm_6, zfn_6, zfm_7, zfn_7, zfm_8, zfn_8, zfm_12, zfn_12, zfm_49, zfn_49, zfm_60, zfn_60, zfm_61, zfn_61, zfm_792, zfn_792, zfm_2989, zfn_2989, Int.zero_add, Int.add_zero, Int.zero_mul, Int.mul_zero, Int.one_mul, Int.mul_one]
  rw [zan7 (by omega), zDg_0]
  refine zl_deB hL0 hp hs hO hm7 htot hw (fun G hm hT => h G hm (fun t ht hP => ?_)) _ 0 0 0 (zDg s 0) H0 _ _ rfl (by omega) (by omega) (fun t ht => ?_) (by omega) (by exact Nat.le_refl _) (by rw [zCu_s]; rfl) (zmd_rf _ _) (fun j hj => by omega)
  · obtain ⟨r, hr, er⟩ := hO.2.1 t hP
    rw [← er, hT r hr]
    unfold zTs
    rw [zrk_e hO hr]
  · rw [Nat.zero_div]
    exact ⟨fun q => by omega, fun ⟨j, hj, _⟩ => by omega⟩
